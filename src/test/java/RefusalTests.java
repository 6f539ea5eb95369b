import java.util.ArrayList;
import java.util.List;

/**
 * REFUSALS: each call of which one is due is made of one of two objects that are alike; behind it they must be alike
 * still but for how many REFUSALS of that number there were. Of a call that fits several the first is due.
 */
final class RefusalTests {
    /** With three RIDERS, SHELVES of all kinds, an IMAGE; the same with a fourth RIDER; with nobody and no IMAGE. */
    private enum Begin { BUSY, FULL, NOBODY }

    private static final int LEAST = Integer.MIN_VALUE;
    private static final int MOST = Integer.MAX_VALUE;
    private final Tally t;

    private RefusalTests(Tally t) {
        this.t = t;
    }

    static void run(Tally t) {
        RefusalTests tests = new RefusalTests(t);
        tests.rows();
        tests.copies();
        tests.ridersShown();
        tests.told();
        tests.hills();
        tests.moves();
        tests.rules();
        tests.afternoons();
        tests.roads();
        tests.inTruth();
        tests.faultAlone();
        tests.noRefusals();
        tests.onlyAsked();
    }

    private static void hill(OneSledgeForTwo x, int shelf, String text) {
        Texts.put(x, shelf, 0, text);
        x.hill(shelf);
    }

    /**
     * SHELF 0 tells an afternoon that is WRONG at 3, 1 and 5 hold RIDERS, 2 NOTHING, 3 a ROW of 100 ints, 4 a text
     * with a FAULT, 6 shorts, 7 longs, none of them.
     */
    private static OneSledgeForTwo begin(Begin how) {
        OneSledgeForTwo x = new OneSledgeForTwo();
        if (how != Begin.NOBODY) {
            x.rider(3, 2);
            x.rider(5, 4);
            x.rider(6, 1);
            x.sledges(1, 1);
            x.tell(0, 0, 1);
            x.tell(1, 1, 33);
            x.ask(1, 9);
            x.image();
            x.move(0);
            x.move(210);
            x.show(1, 0);
            x.show(5, 2);
        }
        if (how == Begin.FULL) {
            x.rider(0, 0);
        }
        x.seed(77);
        Texts.put(x, 0, 700, 700, 700, 999, 700);
        x.row(3, 2, 100);
        hill(x, 4, "hill 5 x");
        x.row(6, 1, 2);
        x.set(6, 0, 55);
        x.row(7, 3, 0);
        x.act(2, 2, 5);
        return x;
    }

    /** All that can be told of an object, its IMAGE last; how many REFUSALS there were stand first, at -1 .. -7. */
    private static List<Long> all(OneSledgeForTwo x) {
        List<Long> told = new ArrayList<>();
        for (int what = 10; what <= 17; what++) {
            told.add((long) x.status(what));
        }
        state(x, told);
        told.add((long) x.fault());
        for (int i = 0; i < 12; i++) {
            told.add((long) x.trace(i));
        }
        for (int s = 0; s < 8; s++) {
            told.add((long) x.holds(s));
            for (int i = 0; i < 9; i++) {
                told.add(x.element(s, i));
            }
            told.add(x.element(s, 99));
        }
        told.add((long) x.restore());
        state(x, told);
        return told;
    }

    private static void state(OneSledgeForTwo x, List<Long> told) {
        for (int what = 0; what < 10; what++) {
            told.add((long) x.status(what));
        }
        for (int r = 0; r < x.status(0); r++) {
            for (int what = 0; what < 6; what++) {
                told.add((long) x.riderOf(r, what));
            }
        }
    }

    /** Of two alike objects one has the call; refusal: the number it is counted as, 0 if nothing is refused. */
    private void alike(Begin how, long due, int refusal, Call call) {
        OneSledgeForTwo x = begin(how);
        OneSledgeForTwo y = begin(how);
        String what = how + " " + call.told();
        t.due("REFUSALS: " + what, call.of(x), due);
        List<Long> is = all(x);
        List<Long> was = all(y);
        if (refusal != 0) {
            was.set(-refusal, was.get(-refusal) + 1);
        }
        t.due("REFUSALS: all there is behind " + what, is.size(), was.size());
        for (int i = 0; i < Math.min(is.size(), was.size()); i++) {
            t.due("REFUSALS: nothing changes: " + i + " behind " + what, is.get(i), was.get(i));
        }
    }

    private void refused(Begin how, int refusal, String name, long... args) {
        alike(how, name.equals("judge") ? refusal - 10 : refusal, refusal, Call.of(name, args));
    }

    private void refused(int refusal, String name, long... args) {
        refused(Begin.BUSY, refusal, name, args);
    }

    private void rows() {
        for (int shelf : new int[] {-1, 8, LEAST, MOST}) {
            refused(-1, "row", shelf, 4, -1);
            refused(-1, "set", shelf, -1, 5);
        }
        refused(-4, "row", 0, 4, -1);
        refused(-4, "row", 1, 0, LEAST);
        refused(-6, "row", 0, 4, 161);
        refused(-6, "row", 1, -1, 0);
        refused(-7, "row", 0, 0, 161);
        refused(-7, "row", 1, 3, MOST);
        refused(-2, "set", 1, -1, 5);
        refused(-3, "set", 2, -1, 5);
        refused(-5, "set", 0, -1, 5);
        refused(-5, "set", 0, 5, 5);
        refused(-5, "set", 7, 0, 5);
    }

    private void copies() {
        refused(-1, "copy", -1, 1, -1, -1, -1);
        refused(-1, "copy", 1, 8, -1, -1, -1);
        refused(-2, "copy", 1, 2, -1, -1, -1);
        refused(-2, "copy", 2, 1, -1, -1, -1);
        refused(-2, "copy", 1, 5, -1, -1, -1);
        refused(-2, "copy", 0, 6, -1, -1, -1);
        refused(-3, "copy", 2, 0, -1, -1, -1);
        refused(-3, "copy", 0, 2, -1, -1, -1);
        refused(-3, "copy", 2, 2, -1, -1, -1);
        refused(-4, "copy", 0, 3, -1, 101, -1);
        refused(-5, "copy", 0, 3, -1, 0, 1);
        refused(-5, "copy", 0, 3, 0, -1, 1);
        refused(-5, "copy", 0, 3, 0, 0, 6);
        refused(-5, "copy", 3, 0, 0, 0, 6);
        refused(-5, "copy", 0, 3, 0, 96, 5);
        refused(-5, "copy", 3, 3, 1, 0, 100);
        refused(-5, "copy", 0, 3, MOST, MOST, MOST);
    }

    private void ridersShown() {
        refused(-1, "show", -1, 0);
        refused(-1, "show", 8, -1);
        refused(-1, "show", 0, 3);
        refused(-1, "show", 1, -2);
        refused(Begin.NOBODY, -1, "show", 0, 0);
        refused(Begin.FULL, -1, "show", 0, 4);
        refused(-1, "says", -1, 0);
        refused(-1, "says", 8, 7);
        refused(-1, "says", 2, 7);
        refused(-1, "says", 0, -1);
        refused(-2, "says", 0, 0);
        refused(-2, "says", 1, 2);
        refused(-2, "says", 5, 1);
        refused(-3, "says", 2, 0);
    }

    private void told() {
        refused(-1, "rider", 7, 10);
        refused(-1, "rider", -1, 0);
        refused(Begin.FULL, -1, "rider", 7, 10);
        refused(-6, "rider", 0, 10);
        refused(Begin.FULL, -6, "rider", 0, -1);
        refused(Begin.FULL, -7, "rider", 6, 9);
        refused(-5, "riderOf", 3, 0);
        refused(-5, "riderOf", -1, 9);
        refused(-5, "riderOf", 0, 6);
        refused(-5, "riderOf", 0, -1);
        refused(-1, "tell", 3, 2, 0);
        refused(-1, "tell", -1, 0, 1);
        refused(-6, "tell", 0, 0, 2);
        refused(-6, "tell", 0, 0, -1);
        refused(-6, "tell", 0, 1, 100);
        refused(-6, "tell", 0, 1, -1);
        refused(-6, "tell", 0, 2, 1);
        refused(-6, "tell", 0, -1, 1);
        refused(-6, "sledges", 4, 0);
        refused(-6, "sledges", 2, 2);
        refused(-6, "sledges", -1, 0);
        refused(-6, "sledges", 0, -1);
        int[] least = {0, 0, 1, 1};
        int[] most = {999, 99, 9, 9};
        for (int what = 0; what < 4; what++) {
            refused(-6, "ask", what, least[what] - 1);
            refused(-6, "ask", what, most[what] + 1);
        }
        refused(-6, "ask", 4, 5);
        refused(-6, "ask", -1, 5);
    }

    private void hills() {
        refused(-1, "hill", -1);
        refused(-1, "hill", 8);
        refused(-2, "hill", 1);
        refused(-3, "hill", 2);
        // the same FAULT as the latest
        refused(-6, "hill", 4);
    }

    private void moves() {
        for (int move : new int[] {-1, 1, 100, 110, 113, 230, 701, 800, LEAST, MOST}) {
            refused(-6, "takes", move);
            refused(-6, "may", move);
            refused(-6, "move", move);
        }
        refused(Begin.NOBODY, -6, "takes", 0);
        refused(Begin.NOBODY, -6, "may", 0);
        refused(-5, "next", -2);
        refused(-5, "next", 99);
        refused(-5, "ahead", 0, -2);
        refused(-5, "ahead", 2, -2);
        refused(-6, "ahead", 0, 9);
        refused(-6, "ahead", 4, -1);
        refused(-5, "ahead", 3, 3);
        refused(-5, "who", -1);
        refused(-5, "who", 3);
        refused(Begin.NOBODY, -5, "who", 0);
    }

    private void rules() {
        refused(-5, "by", 4, 3);
        refused(-5, "by", 0, 6);
        refused(-5, "by", 0, -2);
        refused(Begin.FULL, -5, "by", 0, 6);
        refused(-6, "by", 4, -1);
        refused(-6, "by", -1, 5);
        refused(Begin.NOBODY, -5, "fair", 4);
        refused(-6, "fair", 4);
        refused(-6, "fair", -1);
        refused(Begin.NOBODY, -5, "best", 0);
        refused(-5, "best", 2);
        refused(-5, "best", -1);
        refused(-1, "fits", 8);
        refused(-1, "fits", -1);
        refused(-2, "fits", 1);
        refused(-3, "fits", 2);
        refused(-5, "fits", 6);
        refused(-5, "fits", 7);
        refused(Begin.NOBODY, -5, "pennies", 10);
        refused(-6, "pennies", 10);
        refused(-6, "pennies", -1);
    }

    private void afternoons() {
        for (String name : new String[] {"judge", "done"}) {
            refused(-1, name, 8, -1);
            refused(-1, name, -1, 61);
            refused(-2, name, 1, -1);
            refused(-3, name, 2, -1);
            refused(-4, name, 0, -1);
            refused(-5, name, 0, 6);
            refused(-5, name, 0, 61);
            refused(-6, name, 3, 61);
        }
        refused(-6, "done", 0, 4);
        refused(-6, "done", 3, 1);
        refused(-1, "behind", 8, -1, 4);
        refused(-2, "behind", 1, -1, 4);
        refused(-3, "behind", 2, -1, 4);
        refused(-4, "behind", 0, -1, 4);
        refused(-5, "behind", 0, 6, 0);
        refused(-5, "behind", 0, 4, 4);
        refused(-5, "behind", 0, 3, -1);
        refused(-5, "behind", 3, 61, 4);
        refused(-6, "behind", 3, 61, 0);
        refused(-6, "behind", 0, 4, 3);
    }

    private void roads() {
        refused(-1, "road", 3, 0, 0, 0, 2);
        refused(-1, "road", 0, 3, 0, 0, 2);
        refused(-1, "road", -1, -1, 5, 5, 0);
        refused(-5, "road", 0, 0, 0, 0, 2);
        refused(-5, "road", 0, 1, 5, 5, -1);
        refused(-6, "road", 0, 0, 5, 5, 0);
        refused(-6, "road", 0, 1, 0, 5, 0);
        refused(-6, "road", 0, 1, 501, 5, 1);
        refused(-6, "road", 0, 1, 5, 0, 0);
        refused(-6, "road", 0, 1, 5, 21, 1);
    }

    private void inTruth() {
        refused(-6, "move", 0);
        refused(-6, "move", 600);
        refused(-6, "goes", 4, 1);
        refused(-6, "goes", -1, 1);
        refused(-6, "goes", 1, 0);
        refused(-6, "goes", 1, 61);
        refused(-6, "winter", 0);
        refused(-6, "winter", 61);
        refused(-6, "day", -1);
        refused(-6, "day", 1000);
        refused(Begin.NOBODY, -6, "restore");
    }

    /** A hill() that comes to a ROW with a FAULT tells another FAULT: that and nothing else. */
    private void faultAlone() {
        OneSledgeForTwo x = begin(Begin.BUSY);
        OneSledgeForTwo y = begin(Begin.BUSY);
        Texts.put(x, 6, 1, "rider 0 0;top 1;sledges 3 0;minutes 9;pennies 8;hill 7 6;move 700;top 4");
        Texts.put(y, 6, 1, "rider 0 0;top 1;sledges 3 0;minutes 9;pennies 8;hill 7 6;move 700;top 4");
        t.due("REFUSALS: hill with a FAULT at its end", x.hill(6), -6);
        List<Long> is = all(x);
        List<Long> was = all(y);
        was.set(6, was.get(6) + 1);
        int faultAt = 8 + 10 + 18;
        t.due("REFUSALS: the FAULT of before", was.get(faultAt), 7);
        was.set(faultAt, 70L);
        t.due("REFUSALS: the FAULT alone", is.equals(was) ? 1 : 0, 1);
    }

    /** Answers below 0, and of nothing, that are no REFUSALS. */
    private void noRefusals() {
        for (long shelf : new long[] {-1, 2, 8, LEAST, MOST}) {
            alike(Begin.BUSY, -1, 0, Call.of("holds", shelf));
            alike(Begin.BUSY, 0, 0, Call.of("element", shelf, 0));
        }
        alike(Begin.BUSY, 0, 0, Call.of("element", 0, 5));
        alike(Begin.BUSY, 0, 0, Call.of("element", 0, -1));
        alike(Begin.BUSY, 0, 0, Call.of("element", 1, 0));
        alike(Begin.BUSY, 3, 0, Call.of("judge", 0, 5));
        alike(Begin.BUSY, -1, 0, Call.of("judge", 0, 3));
        alike(Begin.BUSY, -1, 0, Call.of("trace", -1));
        alike(Begin.BUSY, -1, 0, Call.of("trace", 10));
        alike(Begin.BUSY, -1, 0, Call.of("status", -1));
        alike(Begin.BUSY, -1, 0, Call.of("status", 18));
        alike(Begin.BUSY, 7, 0, Call.of("fault"));
        alike(Begin.BUSY, 77, 0, Call.of("seed", 77));
        alike(Begin.NOBODY, 0, 0, Call.of("act", 0, 0, 5));
        alike(Begin.NOBODY, -1, 0, Call.of("trace", 0));
    }

    /** WHAT COMES OF IT (nothing is changed). */
    private void onlyAsked() {
        String[] asked = {"next -1", "next 0", "ahead 1 -1", "ahead 2 -1", "ahead 3 0", "by 0 -1", "by 1 4", "by 2 5",
            "by 3 0", "fair 0", "fair 1", "fair 2", "fair 3", "best 0", "best 1", "judge 0 5", "judge 0 3",
            "behind 0 3 0", "behind 0 3 1", "behind 0 3 2", "behind 0 3 3", "fits 3", "road 0 1 9 9 0",
            "road 0 1 500 1 1", "pennies 9", "pennies 0", "who 0", "who 1", "who 2", "takes 200", "may 200", "may 0",
            "says 1 0", "says 1 1", "says 1 3", "says 5 6", "holds 1", "element 0 0", "riderOf 0 3", "trace 0",
            "status 4", "fault"};
        for (String told : asked) {
            String[] words = told.split(" ");
            long[] args = new long[words.length - 1];
            for (int i = 0; i < args.length; i++) {
                args[i] = Long.parseLong(words[i + 1]);
            }
            Call call = Call.of(words[0], args);
            alike(Begin.BUSY, call.of(begin(Begin.BUSY)), 0, call);
        }
    }
}
