import java.util.ArrayList;
import java.util.List;
import java.util.Random;

/** Runs of calls by draws, each answer held against the model's; at most 512 calls of an object. */
final class ModelTests {
    private static final int MOST_CALLS = 512;
    private static final int[] WILD = {Integer.MIN_VALUE, Integer.MIN_VALUE + 1, -701, -101, -10, -3, -2, 10, 19, 61,
        160, 161, 501, 1000, 65536, Integer.MAX_VALUE - 1, Integer.MAX_VALUE};
    private static final String[] NAMES = {"row", "set", "copy", "element", "show", "holds", "says", "rider", "riderOf",
        "tell", "sledges", "ask", "hill", "fault", "takes", "may", "next", "ahead", "by", "fair", "best", "judge",
        "behind", "done", "fits", "road", "pennies", "who", "move", "goes", "winter", "day", "seed", "act", "trace",
        "image", "restore", "status"};
    /** How many arguments each takes, by the order of the names. */
    private static final int[] ARGUMENTS = {3, 3, 5, 2, 2, 1, 2, 2, 2, 3, 2, 2, 1, 0, 1, 1, 1, 2, 2, 1, 1, 2, 3, 2, 1,
        5, 1, 1, 1, 2, 1, 1, 1, 3, 1, 0, 0, 1};

    private final Tally t;
    private final Random draws;
    private OneSledgeForTwo x;
    private Model model;
    private int calls;
    private String run;
    private boolean broken;

    private ModelTests(Tally t, long seed) {
        this.t = t;
        draws = new Random(seed);
    }

    static void run(Tally t, int runs) {
        for (int seed = 0; seed < runs; seed++) {
            ModelTests tests = new ModelTests(t, seed);
            tests.begin("model run " + seed + ": ");
            switch (seed % 4) {
                case 0: tests.anything(); break;
                case 1: tests.texts(); break;
                case 2: tests.afternoons(); break;
                default: tests.rules(); break;
            }
        }
    }

    private void begin(String name) {
        run = name;
        x = new OneSledgeForTwo();
        model = new Model();
        calls = 0;
        broken = false;
    }

    private boolean goesOn(int needed) {
        return !broken && calls + needed <= MOST_CALLS;
    }

    private long call(String name, long... args) {
        if (!goesOn(1)) {
            return 0;
        }
        Call call = Call.of(name, args);
        calls++;
        long due = call.of(model);
        long got = call.of(x);
        t.due(run + "call " + calls + ", " + call.told(), got, due);
        broken = got != due;
        return got;
    }

    private int draw(int least, int most) {
        return least + draws.nextInt(most - least + 1);
    }

    private boolean chance(int outOfAHundred) {
        return draws.nextInt(100) < outOfAHundred;
    }

    /** All that can be asked of how things stand. */
    private void state() {
        for (int what = 0; what <= 17; what++) {
            call("status", what);
        }
        for (int r = 0; r < model.now.people.size(); r++) {
            for (int what = 0; what < 6; what++) {
                call("riderOf", r, what);
            }
        }
    }

    private void someHill() {
        int riders = draw(0, 4);
        for (int r = 0; r < riders; r++) {
            call("rider", draw(0, 6), draw(0, 9));
            call("tell", r, 0, draw(0, 1));
            call("tell", r, 1, chance(50) ? draw(0, 99) : 0);
        }
        int foot = draw(0, 3);
        call("sledges", foot, draw(0, 3 - foot));
        call("ask", 0, chance(20) ? draw(0, 20) : chance(10) ? draw(0, 999) : draw(10, 120));
        call("ask", 1, draw(0, 4));
        call("ask", 2, draw(1, 9));
        call("ask", 3, draw(1, 9));
        call("seed", draws.nextInt());
    }

    private int argument() {
        int which = draws.nextInt(20);
        return which == 0 ? WILD[draws.nextInt(WILD.length)] : which == 1 ? draws.nextInt() : which == 2 ? -1
            : which < 6 ? draw(0, 60) : which < 9 ? 10 * draw(0, 79) + draw(0, 3) : draw(0, 7);
    }

    private void anything() {
        if (chance(70)) {
            someHill();
        }
        while (goesOn(1)) {
            int which = draws.nextInt(NAMES.length);
            long[] args = new long[ARGUMENTS[which]];
            for (int i = 0; i < args.length; i++) {
                args[i] = argument();
            }
            if (NAMES[which].equals("set")) {
                args[2] = chance(50) ? args[2] : draws.nextLong();
            }
            call(NAMES[which], args);
        }
    }

    // ---- texts

    private String item() {
        switch (draws.nextInt(9)) {
            case 0: return "rider " + number(0, 6) + " " + number(0, 9);
            case 1: return "top " + number(0, 2);
            case 2: return "foot " + number(0, 2);
            case 3: return "sledges " + number(0, 2) + " " + number(0, 1);
            case 4: return "minutes " + number(0, 200);
            case 5: return "pennies " + number(0, 99);
            case 6: return "hill " + number(1, 9) + " " + number(1, 9);
            default: return "move " + move();
        }
    }

    private String number(int least, int most) {
        int n = chance(90) ? draw(least, most) : draw(0, 1100);
        return (chance(15) && n < 100 ? "0" : "") + n;
    }

    private String move() {
        List<Integer> all = model.now.next();
        if (chance(20) || all.isEmpty()) {
            return Integer.toString(chance(50) ? 700 : 100 * draw(0, 7) + 10 * draw(0, 3) + draw(0, 3));
        }
        return Integer.toString(all.get(draws.nextInt(all.size())));
    }

    private String spoiled(String text) {
        if (text.isEmpty()) {
            return text;
        }
        int at = draws.nextInt(text.length());
        String signs = "rtfsmphid 0123456789;;  xo?";
        char sign = signs.charAt(draws.nextInt(signs.length()));
        switch (draws.nextInt(4)) {
            case 0: return text.substring(0, at);
            case 1: return text.substring(0, at) + text.substring(at + 1);
            case 2: return text.substring(0, at) + sign + text.substring(at + 1);
            default: return text.substring(0, at) + sign + text.substring(at);
        }
    }

    private void texts() {
        while (goesOn(200)) {
            StringBuilder text = new StringBuilder(item());
            int more = draws.nextInt(6);
            for (int i = 0; i < more; i++) {
                text.append(';').append(item());
            }
            String told = chance(50) ? spoiled(text.toString()) : text.toString();
            told = told.substring(0, Math.min(told.length(), 140));
            int sort = draw(0, 3);
            call("row", 0, sort, told.length());
            for (int i = 0; i < told.length(); i++) {
                call("set", 0, i, told.charAt(i) + (sort == 3 && chance(5) ? 1L << 32 : 0));
            }
            call("hill", 0);
            call("fault");
            if (chance(30)) {
                state();
            }
            if (chance(10)) {
                call(chance(50) ? "image" : "restore");
            }
        }
        state();
    }

    // ---- afternoons

    private void afternoons() {
        someHill();
        while (goesOn(120)) {
            int n = draw(0, 12);
            int sort = draw(1, 3);
            call("row", 1, sort, n);
            Model.State s = model.now;
            List<Integer> row = new ArrayList<>();
            for (int i = 0; i < n; i++) {
                List<Integer> all = s.next();
                int move = all.isEmpty() || chance(4) ? draw(-1, 720) : all.get(draws.nextInt(all.size()));
                row.add(move);
                s = s.may(move) ? s.after(move) : s;
            }
            for (int i = 0; i < n; i++) {
                call("set", 1, i, row.get(i));
            }
            call("judge", 1, n);
            call("judge", 1, draw(-1, n + 1));
            for (int what = 0; what < 4; what++) {
                call("behind", 1, chance(80) ? n : draw(-1, 61), what);
            }
            if (chance(60)) {
                call("done", 1, n);
                state();
            }
            call("winter", draw(1, 9));
            call("status", 9);
            call("who", draw(0, 2));
            if (chance(40)) {
                call("day", draw(0, 120));
            }
        }
        state();
    }

    // ---- RULES, AHEAD, NEXT

    private void rules() {
        while (goesOn(110)) {
            if (calls > 0 && chance(70)) {
                call("restore");
            } else {
                call("image");
            }
            someHill();
            int rule = draw(0, 3);
            for (int what = -1; what <= 5; what++) {
                call("by", rule, what);
            }
            call("fair", draw(0, 3));
            call("best", draw(0, 1));
            call("pennies", draw(0, 9));
            for (int i = -1; i < 3; i++) {
                call("ahead", draw(1, chance(30) ? 3 : 2), i);
            }
            int last = draw(0, 20);
            for (int i = -1; i < last; i++) {
                call("next", i);
            }
            fits();
            call("goes", draw(0, 3), draw(1, 60));
            state();
            call("road", draw(0, 3), draw(0, 3), draw(1, 500), draw(1, 20), draw(0, 1));
        }
    }

    private void fits() {
        int rule = draw(0, 3);
        int riders = model.now.people.size();
        call("row", 2, draw(0, 3), riders);
        for (int r = 0; r < riders; r++) {
            call("set", 2, r, model.by(rule, r) + (chance(5) ? 1 : 0));
        }
        call("fits", 2);
    }
}
