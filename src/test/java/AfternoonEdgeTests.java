/** The boundary sentences on told afternoons, WINTERS, DRAWS and days, of promises 23 to 25 and 32 to 34. */
final class AfternoonEdgeTests {
    private final Tally t;

    private AfternoonEdgeTests(Tally t) {
        this.t = t;
    }

    static void run(Tally t) {
        AfternoonEdgeTests tests = new AfternoonEdgeTests(t);
        tests.noMovesAndSixty();
        tests.sixtyAtMost();
        tests.fewerElements();
        tests.firstWrong();
        tests.tillDark();
        tests.rowsOfAllSorts();
        tests.judgeCounts();
        tests.behindTells();
        tests.doneOrNothing();
        tests.winter();
        tests.noDraw();
        tests.drawsOfOne();
        tests.upperBits();
        tests.day();
        tests.seed();
    }

    private Sentence sentence(String words) {
        return new Sentence(t, words);
    }

    /** A ROW of so many RESTS in SHELF 0. */
    private static Sentence rests(Sentence s, int n) {
        int[] moves = new int[n];
        java.util.Arrays.fill(moves, 700);
        return s.row(0, moves);
    }

    private void noMovesAndSixty() {
        Sentence s = rests(sentence("by the first n elements (0 to 60): none of them"), 1).plainRiders(1);
        s.due(-1, "judge", 0, 0).due(60, "behind", 0, 0, 1).due(0, "behind", 0, 0, 0).due(0, "behind", 0, 0, 2)
            .due(0, "behind", 0, 0, 3).due(60, "done", 0, 0).due(60, "status", 4);
        s = sentence("by the first n elements (0 to 60): of a ROW without any").row(0);
        s.due(-1, "judge", 0, 0).due(60, "behind", 0, 0, 1).due(60, "done", 0, 0).due(-15, "judge", 0, 1);
        s = rests(sentence("by the first n elements (0 to 60): all sixty"), 60).plainRiders(1);
        s.call("ask", 0, 999);
        s.due(-1, "judge", 0, 60).due(699, "behind", 0, 60, 1).due(999, "status", 4).due(699, "done", 0, 60)
            .due(699, "status", 4);
        s = rests(sentence("by the first n elements: those behind them count nothing"), 2);
        s.call("set", 0, 1, 999);
        s.due(-1, "judge", 0, 1).due(1, "judge", 0, 2).due(55, "behind", 0, 1, 1).due(-6, "behind", 0, 2, 1)
            .due(-6, "done", 0, 2).due(55, "done", 0, 1);
    }

    private void sixtyAtMost() {
        Sentence s = rests(sentence("judge: -16 n above 60; behind, done: -6 likewise"), 61);
        s.call("ask", 0, 999);
        s.due(-1, "judge", 0, 60).due(-16, "judge", 0, 61).due(699, "behind", 0, 60, 1).due(-6, "behind", 0, 61, 1)
            .due(-6, "done", 0, 61).due(999, "status", 4).due(3, "status", 16);
        s = sentence("judge: -16 n above 60: of a ROW as long as can be");
        s.due(1, "row", 0, 2, 160).due(-16, "judge", 0, 61).due(-16, "judge", 0, 160).due(-15, "judge", 0, 161);
        s.due(-6, "done", 0, 160).due(-5, "done", 0, 161).due(-6, "behind", 0, 160, 0).due(-5, "behind", 0, 161, 0);
    }

    private void fewerElements() {
        Sentence s = rests(sentence("-15 fewer elements"), 3);
        s.due(-1, "judge", 0, 3).due(-15, "judge", 0, 4).due(45, "behind", 0, 3, 1).due(-5, "behind", 0, 4, 1)
            .due(-5, "done", 0, 4).due(-15, "judge", 0, 61).due(-5, "behind", 0, 61, 1).due(-5, "done", 0, 61)
            .due(-15, "judge", 0, Integer.MAX_VALUE).due(-5, "done", 0, Integer.MAX_VALUE).due(45, "done", 0, 3);
        s = rests(sentence("-14 n"), 3);
        s.due(-14, "judge", 0, -1).due(-4, "behind", 0, -1, 0).due(-4, "behind", 0, -1, 4).due(-4, "done", 0, -1)
            .due(-14, "judge", 0, Integer.MIN_VALUE).due(5, "status", 14);
    }

    private void firstWrong() {
        Sentence s = sentence("WRONG: the first that MAY not be; NONE").plainRiders(1);
        s.row(0, 0, 200, 0).due(0, "judge", 0, 3).due(0, "judge", 0, 1);
        s.row(0, 200, 0, 0).due(-1, "judge", 0, 2).due(2, "judge", 0, 3);
        s.row(0, 200, 200, 0).due(1, "judge", 0, 3).due(1, "judge", 0, 2).due(-1, "judge", 0, 1);
        s = sentence("A MOVE that is none is WRONG in a told afternoon").plainRiders(1);
        for (int move : new int[] {-1, 1, 10, 101, 210, 301, 701, 800, Integer.MAX_VALUE, Integer.MIN_VALUE}) {
            s.row(0, 700, move).due(1, "judge", 0, 2).due(-6, "behind", 0, 2, 1).due(-6, "done", 0, 2);
        }
        s.due(60, "status", 4).due(20, "status", 16);
    }

    private void tillDark() {
        Sentence s = rests(sentence("WRONG: the first that MAY not be: the sixtieth, when it is dark"), 60);
        s.call("ask", 0, 300);
        s.due(-1, "judge", 0, 60).due(0, "behind", 0, 60, 1);
        s.call("ask", 0, 299);
        s.due(59, "judge", 0, 60).due(-1, "judge", 0, 59).due(4, "behind", 0, 59, 1).due(-6, "behind", 0, 60, 1)
            .due(-6, "done", 0, 60).due(299, "status", 4).due(4, "done", 0, 59);
        s.call("ask", 0, 4);
        s.due(0, "judge", 0, 1).due(-1, "judge", 0, 0);
    }

    private void rowsOfAllSorts() {
        Sentence s = sentence("Elements of a ROW of longs count by their lowest 32 bits").plainRiders(1);
        s.longs(0, 200, 0).due(-1, "judge", 0, 2).due(1, "behind", 0, 2, 0).due(51, "done", 0, 2);
        s = sentence("what is put in keeps its lowest bits: MOVES in bytes, shorts").plainRiders(1);
        s.due(1, "row", 0, 0, 1).due(1, "set", 0, 0, 200).due(0, "judge", 0, 1).due(1, "row", 0, 1, 1)
            .due(1, "set", 0, 0, 65536 + 200).due(-1, "judge", 0, 1).due(54, "done", 0, 1);
    }

    private void judgeCounts() {
        Sentence s = rests(sentence("judge: -11; -12; -13; -14; -15; -16 (counted as -1 to -6)"), 61).plainRiders(1);
        s.call("show", 1, 0);
        s.due(-11, "judge", 8, -1).due(-12, "judge", 1, -1).due(-13, "judge", 2, -1).due(-14, "judge", 0, -1)
            .due(-15, "judge", 0, 62).due(-16, "judge", 0, 61);
        for (int refusal = 11; refusal <= 16; refusal++) {
            s.due(1, "status", refusal);
        }
        s.due(0, "status", 17);
        s = sentence("WRONG is no refusal").row(0, 999);
        s.due(0, "judge", 0, 1).due(0, "status", 16);
    }

    private void behindTells() {
        Sentence s = sentence("Behind it: RUNS of all, minutes left, WAITED of all, PENNIES").riders(0, 0, 2, 0);
        s.call("ask", 1, 1);
        s.row(0, 500, 0, 310, 301, 101);
        s.due(0, "behind", 0, 1, 0).due(58, "behind", 0, 1, 1).due(2, "behind", 0, 1, 2).due(0, "behind", 0, 1, 3);
        s.due(1, "behind", 0, 2, 0).due(55, "behind", 0, 2, 1).due(5, "behind", 0, 2, 2).due(-6, "behind", 0, 3, 0);
        s.call("set", 0, 2, 301);
        s.call("set", 0, 3, 101);
        s.due(3, "behind", 0, 4, 0).due(55 - 5 - 2, "behind", 0, 4, 1).due(5, "behind", 0, 4, 2)
            .due(0, "behind", 0, 4, 3).due(-6, "behind", 0, 5, 3);
        s = sentence("Behind it: of all: of as many RIDERS as there can be").plainRiders(4).row(0, 301, 101, 400);
        s.due(2, "behind", 0, 3, 0).due(48, "behind", 0, 3, 1).due(8 * 2 + 3 * 4, "behind", 0, 3, 2);
        s = sentence("Behind it: of all: of nobody").row(0, 700);
        s.due(0, "behind", 0, 1, 0).due(55, "behind", 0, 1, 1).due(0, "behind", 0, 1, 2);
        s = sentence("Behind it: of all: of none but those there are").plainRiders(1).row(0, 700);
        s.call("image");
        s.plainRiders(1);
        s.call("move", 400);
        s.due(4, "behind", 0, 1, 2).due(1, "restore").due(0, "behind", 0, 1, 2).due(0, "status", 8);
        s = rests(sentence("behind: -5 also another what"), 61);
        s.due(-5, "behind", 0, 1, -1).due(-5, "behind", 0, 1, 4).due(-5, "behind", 0, 1, Integer.MAX_VALUE)
            .due(-5, "behind", 0, 1, Integer.MIN_VALUE).due(-5, "behind", 0, 61, 4).due(-4, "behind", 0, -1, 4)
            .due(-3, "behind", 1, 1, 4).due(-1, "behind", 8, 1, 4);
        s.call("set", 0, 0, 999);
        s.due(-5, "behind", 0, 1, 4).due(-6, "behind", 0, 1, 3);
    }

    private void doneOrNothing() {
        Sentence s = sentence("It comes to pass in truth: minutes left; -6: nothing does").riders(0, 0, 2, 0);
        s.row(0, 200, 0, 210, 999);
        s.due(-6, "done", 0, 4).due(60, "status", 4).due(0, "status", 1).due(0, "status", 8).rider(0, 0, 0, 0, 0)
            .rider(1, 0, 0, 0, 0).due(1, "status", 2);
        s.due(47, "done", 0, 3).due(2, "status", 1).rider(0, 0, 4, 1, 4).rider(1, 1, 5, 0, 9).due(1, "status", 9);
        s.due(-6, "done", 0, 1).due(47, "status", 4);
    }

    private void winter() {
        Sentence s = sentence("A WINTER of n MOVES (1 to 60) by draws; -6");
        s.due(-6, "winter", 0).due(-6, "winter", 61).due(-6, "winter", -1).due(-6, "winter", Integer.MAX_VALUE)
            .due(-6, "winter", Integer.MIN_VALUE).due(60, "status", 4).due(1, "status", 9).due(5, "status", 16);
        s.call("ask", 0, 999);
        s.due(0, "winter", 1).due(994, "status", 4).due(0, "winter", 60).due(694, "status", 4);
        s = sentence("a WINTER: RUNS by them, not those of before").plainRiders(2);
        s.call("sledges", 0, 1);
        s.call("tell", 0, 0, 1);
        s.call("move", 0);
        s.call("ask", 0, 0);
        s.due(0, "winter", 60).due(1, "status", 8);
    }

    private static int drawn(int seed) {
        return (int) (seed * 1103515245L + 12345L);
    }

    private void noDraw() {
        Sentence s = sentence("(none: nothing, no DRAW)").plainRiders(4);
        s.call("ask", 0, 0);
        s.call("seed", 99);
        s.due(0, "winter", 60).due(99, "status", 9).due(0, "status", 4);
        s = sentence("(none: nothing, no DRAW): behind the latest that MAY be");
        s.call("ask", 0, 14);
        int seed = drawn(drawn(1));
        s.due(0, "winter", 60).due(4, "status", 4).due(seed, "status", 9).due(0, "winter", 1).due(seed, "status", 9);
    }

    private void drawsOfOne() {
        Sentence s = sentence("A DRAW below n: also of one MOVE alone SEED becomes another");
        s.due(1, "next", -1).due(0, "winter", 1).due(drawn(1), "status", 9);
        s = sentence("n times: a DRAW each, sixty of them");
        s.call("ask", 0, 300);
        int seed = 1;
        for (int i = 0; i < 60; i++) {
            seed = drawn(seed);
        }
        s.due(0, "winter", 60).due(seed, "status", 9).due(0, "status", 4);
    }

    private void upperBits() {
        // a SEED is put so that the DRAW's upper 16 bits are these
        int[] upper = {0, 1, 2, 3, 32767, 32768, 32769, 65533, 65534, 65535};
        int[] due = {200, 400, 700};
        for (int bits : upper) {
            int next = bits << 16 | 0x1234;
            int seed = before(next);
            Sentence s = sentence("its upper 16 bits, no sign, modulo n: " + bits).plainRiders(1);
            s.call("seed", seed);
            s.due(3, "next", -1).due(0, "winter", 1).due(next, "status", 9);
            int move = due[bits % 3];
            s.due(move == 200 ? 54 : move == 400 ? 56 : 55, "status", 4).due(move == 700 ? 0 : 1, "status", 1);
        }
    }

    /** The SEED that becomes another by a DRAW: the factor's inverse, found bit by bit. */
    private static int before(int next) {
        int seed = 0;
        for (int bit = 0; bit < 32; bit++) {
            int wrong = drawn(seed) ^ next;
            seed |= wrong & 1 << bit;
        }
        return seed;
    }

    private void day() {
        Sentence s = sentence("Another day: MINUTES v (0 to 999); -6").plainRiders(1);
        s.due(-6, "day", -1).due(-6, "day", 1000).due(-6, "day", Integer.MAX_VALUE).due(-6, "day", Integer.MIN_VALUE)
            .due(60, "status", 4).due(0, "day", 999).due(999, "status", 4).due(0, "day", 0).due(0, "status", 4);
        s = sentence("Another day: nobody is TIRED, all at the FOOT, all SLEDGES too, RUNS, WAITED 0").plainRiders(4);
        s.call("ask", 1, 9);
        s.call("sledges", 1, 2);
        for (int r = 0; r < 4; r++) {
            s.call("tell", r, 0, 1);
            s.call("tell", r, 1, 99);
        }
        s.call("move", 123);
        s.due(-6, "day", 1000).due(2, "status", 8).due(3, "status", 1).due(2, "status", 2).rider(0, 1, 97, 0, 2);
        s.due(2, "day", 5).due(3, "status", 2).due(0, "status", 3).due(0, "status", 1).due(0, "status", 8)
            .due(5, "status", 4).due(9, "status", 5).due(4, "status", 0);
        for (int r = 0; r < 4; r++) {
            s.rider(r, 0, 0, 0, 0);
        }
        s.due(0, "day", 5);
        s = sentence("Another day: of nobody, without SLEDGES");
        s.due(0, "sledges", 0, 0).due(0, "day", 7).due(7, "status", 4).due(0, "status", 2);
        s = sentence("Another day: all SLEDGES, three of them");
        s.due(3, "sledges", 0, 3).due(0, "day", 7).due(3, "status", 2).due(0, "status", 3);
    }

    private void seed() {
        Sentence s = sentence("SEED becomes v: what it was (nothing is refused)");
        s.due(1, "seed", Integer.MIN_VALUE).due(Integer.MIN_VALUE, "status", 9).due(Integer.MIN_VALUE, "seed", -1)
            .due(-1, "seed", 0).due(0, "seed", Integer.MAX_VALUE).due(Integer.MAX_VALUE, "status", 9);
        for (int refusal = 11; refusal <= 17; refusal++) {
            s.due(0, "status", refusal);
        }
        s = sentence("(an int, wrapping)");
        s.call("seed", Integer.MAX_VALUE);
        s.due(0, "winter", 1).due(drawn(Integer.MAX_VALUE), "status", 9);
    }
}
