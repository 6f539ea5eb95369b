/** The boundary sentences on SHELVES, ACTS, THE TRACE and THE IMAGE, of promises 2 to 8 and 35 to 39. */
final class ShelfEdgeTests {
    private final Tally t;

    private ShelfEdgeTests(Tally t) {
        this.t = t;
    }

    static void run(Tally t) {
        ShelfEdgeTests tests = new ShelfEdgeTests(t);
        tests.shelves();
        tests.rows();
        tests.rowsAnew();
        tests.lowestBits();
        tests.set();
        tests.copy();
        tests.copyRefused();
        tests.element();
        tests.show();
        tests.says();
        tests.saysMinutes();
        tests.act();
        tests.actWraps();
        tests.actToughWaits();
        tests.trace();
        tests.image();
        tests.restoredShelves();
        tests.status();
    }

    private Sentence sentence(String words) {
        return new Sentence(t, words);
    }

    private void shelves() {
        Sentence s = sentence("SHELVES 0 to 7 hold NOTHING (at first), a ROW, or a RIDER").plainRiders(1);
        for (int shelf = 0; shelf < 8; shelf++) {
            s.due(-1, "holds", shelf).due(-3, "set", shelf, 0, 1).due(-3, "says", shelf, 0);
        }
        for (int shelf = 0; shelf < 8; shelf++) {
            s.due(1, "row", shelf, shelf % 4, 1).due(100 + shelf % 4, "holds", shelf).due(1, "show", shelf, 0)
                .due(0, "holds", shelf);
        }
        for (int shelf : new int[] {-1, 8, Integer.MIN_VALUE, Integer.MAX_VALUE}) {
            s.due(-1, "row", shelf, 0, 1).due(-1, "set", shelf, 0, 1).due(-1, "copy", shelf, 0, 0, 0, 0)
                .due(-1, "copy", 0, shelf, 0, 0, 0).due(0, "element", shelf, 0).due(-1, "show", shelf, 0)
                .due(-1, "show", shelf, -1).due(-1, "holds", shelf).due(-1, "says", shelf, 0).due(-1, "hill", shelf)
                .due(-11, "judge", shelf, 0).due(-1, "behind", shelf, 0, 0).due(-1, "done", shelf, 0)
                .due(-1, "fits", shelf);
        }
    }

    private void rows() {
        Sentence s = sentence("A ROW has a SORT (0 bytes, 1 shorts, 2 ints, 3 longs)");
        s.due(-6, "row", 0, -1, 1).due(-6, "row", 0, 4, 1).due(-6, "row", 0, 5, 1).due(-1, "holds", 0)
            .due(-6, "row", 0, Integer.MAX_VALUE, 1).due(-6, "row", 0, Integer.MIN_VALUE, 1);
        s.due(1, "row", 0, 0, 1).due(100, "holds", 0).due(1, "row", 0, 3, 1).due(103, "holds", 0);
        s = sentence("and 0 to 160 elements");
        s.due(-4, "row", 0, 0, -1).due(-4, "row", 0, 0, Integer.MIN_VALUE).due(-7, "row", 0, 0, 161)
            .due(-7, "row", 0, 0, Integer.MAX_VALUE).due(-1, "holds", 0);
        s.due(1, "row", 0, 0, 0).due(100, "holds", 0).due(-5, "set", 0, 0, 1);
        for (int shelf = 0; shelf < 8; shelf++) {
            s.due(1, "row", shelf, 3, 160).due(1, "set", shelf, 159, 70 + shelf).due(-5, "set", shelf, 160, 1);
        }
        for (int shelf = 0; shelf < 8; shelf++) {
            s.due(70 + shelf, "element", shelf, 159).due(0, "element", shelf, 158);
        }
        s = sentence("row: -1; -4; -6 SORT; -7 n above 160");
        s.due(-1, "row", 8, 4, -1).due(-4, "row", 0, 4, -1).due(-6, "row", 0, 4, 161).due(-7, "row", 0, 3, 161);
    }

    private void rowsAnew() {
        Sentence s = sentence("0 to 160 elements, 0 at first: a new ROW in place of another");
        s.row(0, 5, 6, 7).due(1, "row", 0, 2, 3);
        for (int i = 0; i < 3; i++) {
            s.due(0, "element", 0, i);
        }
        s.row(1, 5, 6, 7).due(1, "row", 1, 3, 1).due(0, "element", 1, 0).due(0, "element", 1, 1)
            .due(1, "row", 1, 3, 160).due(0, "element", 1, 1).due(0, "element", 1, 2).due(0, "element", 1, 159);
        s.call("set", 1, 159, 9);
        s.due(1, "row", 1, 0, 0).due(1, "row", 1, 0, 160).due(0, "element", 1, 159);
        s = sentence("SHELF s holds a new ROW: in place of a RIDER, who stays").plainRiders(1);
        s.due(1, "show", 0, 0).due(1, "row", 0, 1, 1).due(101, "holds", 0).due(1, "status", 0);
    }

    private void lowestBits() {
        long[][] due = {
            {0, 127, 127}, {0, 128, -128}, {0, 255, -1}, {0, 256, 0}, {0, -128, -128}, {0, -129, 127},
            {0, Long.MAX_VALUE, -1}, {0, Long.MIN_VALUE, 0},
            {1, 32767, 32767}, {1, 32768, -32768}, {1, 65535, -1}, {1, 65536, 0}, {1, -32768, -32768},
            {1, -32769, 32767}, {1, Long.MAX_VALUE, -1}, {1, Long.MIN_VALUE, 0},
            {2, 2147483647L, 2147483647L}, {2, 2147483648L, -2147483648L}, {2, 4294967295L, -1}, {2, 4294967296L, 0},
            {2, -2147483648L, -2147483648L}, {2, -2147483649L, 2147483647L}, {2, Long.MAX_VALUE, -1},
            {2, Long.MIN_VALUE, 0},
            {3, Long.MAX_VALUE, Long.MAX_VALUE}, {3, Long.MIN_VALUE, Long.MIN_VALUE}, {3, 4294967296L, 4294967296L},
            {3, -1, -1}};
        Sentence s = sentence("what is put in keeps its lowest bits");
        for (long[] row : due) {
            s.due(1, "row", 0, row[0], 2).due(1, "set", 0, 1, row[1]).due(row[2], "element", 0, 1)
                .due(0, "element", 0, 0);
        }
    }

    private void set() {
        Sentence s = sentence("set: -5 an element that isn't there").plainRiders(1).row(0, 4, 5);
        s.due(-5, "set", 0, -1, 9).due(-5, "set", 0, 2, 9).due(-5, "set", 0, Integer.MAX_VALUE, 9)
            .due(-5, "set", 0, Integer.MIN_VALUE, 9).due(4, "element", 0, 0).due(5, "element", 0, 1);
        s.due(1, "set", 0, 0, 6).due(1, "set", 0, 1, 7).due(6, "element", 0, 0).due(7, "element", 0, 1);
        s = sentence("set: -1; -2; -3; -5").plainRiders(1);
        s.due(1, "show", 0, 0).due(-1, "set", 8, 9, 1).due(-2, "set", 0, 9, 1).due(-3, "set", 1, 9, 1);
    }

    private void copy() {
        Sentence s = sentence("copy: n of them: all, one and none");
        s.due(1, "row", 0, 3, 160).due(1, "row", 1, 3, 160);
        for (int i = 0; i < 160; i += 53) {
            s.due(1, "set", 0, i, i + 1);
        }
        s.due(1, "copy", 0, 1, 0, 0, 160);
        for (int i = 0; i < 160; i += 53) {
            s.due(i + 1, "element", 1, i);
        }
        s.due(0, "element", 1, 158).due(-5, "copy", 0, 1, 0, 0, 161).due(-5, "copy", 0, 1, 1, 0, 160)
            .due(-5, "copy", 0, 1, 0, 1, 160);
        s.due(1, "copy", 0, 1, 159, 158, 1).due(160, "element", 1, 158).due(160, "element", 1, 159);
        s.due(1, "copy", 0, 1, 160, 160, 0).due(1, "copy", 0, 1, 0, 0, 0).due(-5, "copy", 0, 1, 161, 0, 0)
            .due(-5, "copy", 0, 1, 0, 161, 0);
        s = sentence("copy: of ROWS without elements");
        s.row(0).row(1).due(1, "copy", 0, 1, 0, 0, 0).due(-5, "copy", 0, 1, 0, 0, 1).due(-4, "copy", 0, 1, 0, 0, -1);
        s = sentence("copy: (as they were ahead): within one ROW, up and down");
        s.row(0, 1, 2, 3, 4, 5).due(1, "copy", 0, 0, 0, 2, 3);
        int[] up = {1, 2, 1, 2, 3};
        for (int i = 0; i < 5; i++) {
            s.due(up[i], "element", 0, i);
        }
        s.due(1, "copy", 0, 0, 1, 0, 4);
        int[] down = {2, 1, 2, 3, 3};
        for (int i = 0; i < 5; i++) {
            s.due(down[i], "element", 0, i);
        }
        s.due(1, "copy", 0, 0, 0, 0, 5).due(2, "element", 0, 0).due(3, "element", 0, 4);
    }

    private void copyRefused() {
        Sentence s = sentence("copy: -2 also of two SORTS (when both hold something)").plainRiders(1);
        for (int sort = 0; sort < 4; sort++) {
            s.due(1, "row", sort, sort, 2);
        }
        for (int p = 0; p < 4; p++) {
            for (int q = 0; q < 4; q++) {
                s.due(p == q ? 1 : -2, "copy", p, q, 0, 0, 1);
            }
        }
        s.due(1, "show", 4, 0).due(-2, "copy", 4, 4, 0, 0, 1).due(-2, "copy", 4, 0, 0, 0, 1)
            .due(-2, "copy", 0, 4, 0, 0, 1).due(-2, "copy", 4, 5, 0, 0, 1).due(-2, "copy", 5, 4, 0, 0, 1);
        s = sentence("copy: -3 either");
        s.row(0, 1).due(-3, "copy", 0, 1, 0, 0, 1).due(-3, "copy", 1, 0, 0, 0, 1).due(-3, "copy", 1, 2, 0, 0, 1)
            .due(-3, "copy", 1, 1, 9, 9, -1).due(1, "copy", 0, 0, 0, 0, 1);
        s = sentence("copy: -4 n; -5 i or j below 0, or an end that isn't there").row(0, 1, 2, 3).row(1, 4, 5);
        s.due(-4, "copy", 0, 1, -1, -1, -1).due(-4, "copy", 0, 1, 9, 9, Integer.MIN_VALUE);
        s.due(-5, "copy", 0, 1, -1, 0, 1).due(-5, "copy", 0, 1, 0, -1, 1).due(-5, "copy", 0, 1, -1, 0, 0)
            .due(-5, "copy", 0, 1, 0, -1, 0).due(-5, "copy", 0, 1, 3, 0, 1).due(-5, "copy", 0, 1, 0, 2, 1)
            .due(-5, "copy", 0, 1, 2, 0, 2).due(-5, "copy", 0, 1, 0, 1, 2).due(-5, "copy", 0, 1, 0, 0, 3);
        s.due(-5, "copy", 0, 1, Integer.MIN_VALUE, 0, 1).due(-5, "copy", 0, 1, 1, 1, Integer.MAX_VALUE)
            .due(-5, "copy", 0, 1, Integer.MAX_VALUE, 0, Integer.MAX_VALUE)
            .due(-5, "copy", 0, 1, 0, Integer.MAX_VALUE, 1).due(-5, "copy", 0, 1, 0, Integer.MAX_VALUE, 0);
        s.due(4, "element", 1, 0).due(5, "element", 1, 1);
        s.due(1, "copy", 0, 1, 1, 0, 2).due(2, "element", 1, 0).due(3, "element", 1, 1);
        s.due(1, "copy", 0, 1, 0, 1, 1).due(2, "element", 1, 0).due(1, "element", 1, 1);
    }

    private void element() {
        Sentence s = sentence("Element i of the ROW; 0 if there is none (nothing is refused)").plainRiders(1);
        s.row(0, 8, 9).due(8, "element", 0, 0).due(9, "element", 0, 1).due(0, "element", 0, 2)
            .due(0, "element", 0, -1).due(0, "element", 0, Integer.MAX_VALUE).due(0, "element", 0, Integer.MIN_VALUE)
            .due(0, "element", 0, 160).due(0, "element", 1, 0).due(0, "element", 8, 0).due(0, "element", -1, 0);
        s.due(1, "row", 0, 2, 1).due(0, "element", 0, 0).due(0, "element", 0, 1);
        s.row(2, 7, 7).due(1, "show", 2, 0).due(0, "element", 2, 0).due(0, "show", 2, -1).due(0, "element", 2, 0);
        for (int refusal = 11; refusal <= 17; refusal++) {
            s.due(0, "status", refusal);
        }
    }

    private void show() {
        Sentence s = sentence("show: a RIDER, or NOTHING (rider NONE): 1, 0. -1");
        s.due(-1, "show", 0, 0).due(0, "show", 0, -1).due(-1, "holds", 0).plainRiders(4);
        s.due(1, "show", 0, 0).due(1, "show", 7, 3).due(0, "holds", 0).due(3, "holds", 7);
        s.due(-1, "show", 0, 4).due(-1, "show", 0, -2).due(-1, "show", 0, Integer.MAX_VALUE)
            .due(-1, "show", 0, Integer.MIN_VALUE).due(-1, "show", -1, 0).due(-1, "show", 8, -1).due(0, "holds", 0);
        s.due(0, "show", 0, -1).due(0, "show", 0, -1).due(-1, "holds", 0).due(7, "status", 11);
        s = sentence("show: in place of a ROW").plainRiders(1).row(0, 1, 2);
        s.due(-1, "show", 0, 1).due(102, "holds", 0).due(2, "element", 0, 1).due(1, "show", 0, 0).due(0, "holds", 0);
        s = sentence("What SHELF s holds: NONE NOTHING, or no such SHELF (nothing is refused)");
        s.due(-1, "holds", 0).due(-1, "holds", 8).due(-1, "holds", -1).due(0, "status", 11).due(0, "status", 13);
    }

    private void says() {
        // which KINDS each KIND is
        int[] of = {1, 1 + 2, 1 + 4, 1 + 2 + 8, 1 + 16, 1 + 4 + 32, 1 + 16 + 64};
        for (int own = 0; own < 7; own++) {
            Sentence s = sentence("says: -2 also a RIDER of another KIND: of KIND " + own).riders(own, 0);
            s.call("show", 0, 0);
            for (int kind = 0; kind < 7; kind++) {
                boolean is = (of[own] >> kind & 1) == 1;
                t.holds("says(0, " + kind + ") of KIND " + own, s.call("says", 0, kind) == -2 != is);
            }
            s.due(-1, "says", 0, 7).due(-1, "says", 0, -1);
        }
        Sentence s = sentence("says: -1 SHELF, KIND; -2 also a RIDER of another KIND; -3").plainRiders(1).row(1, 5);
        s.call("show", 0, 0);
        s.due(-1, "says", 8, 0).due(-1, "says", -1, 0).due(-1, "says", 2, 7).due(-1, "says", 1, -1)
            .due(-1, "says", 0, Integer.MAX_VALUE).due(-1, "says", 0, Integer.MIN_VALUE);
        s.due(-2, "says", 1, 0).due(-2, "says", 0, 1).due(-3, "says", 2, 0).due(-3, "says", 7, 6);
    }

    private void saysMinutes() {
        Sentence s = sentence("says: RIDER his RUNS; .. minutes of DOWN alone, PULL alone, WALK up, as they are now")
            .riders(3, 0, 5, 0, 6, 0);
        for (int r = 0; r < 3; r++) {
            s.call("show", r, r);
        }
        s.due(0, "says", 0, 0).due(1, "says", 0, 1).due(1, "says", 0, 3).due(3, "says", 1, 2).due(3, "says", 1, 5)
            .due(4, "says", 2, 4).due(4, "says", 2, 6);
        s.call("ask", 3, 9);
        s.call("ask", 2, 1);
        s.due(7, "says", 0, 1).due(7, "says", 0, 3).due(1, "says", 1, 2).due(1, "says", 1, 5).due(1, "says", 2, 4);
        for (int r = 0; r < 3; r++) {
            s.call("tell", r, 1, 99);
        }
        s.due(7, "says", 0, 3).due(7, "says", 1, 5).due(10, "says", 2, 6);
        s.call("sledges", 0, 1);
        s.call("tell", 0, 0, 1);
        s.call("move", 0);
        s.due(1, "says", 0, 0).due(0, "says", 1, 0);
    }

    private void act() {
        Sentence s = sentence("act: 0, and no TRACE then: no such RIDER, act");
        s.due(0, "act", 0, 0, 5).due(-1, "trace", 0).due(0, "status", 10).plainRiders(4);
        s.due(8, "act", 3, 0, 5).due(10, "trace", 0).due(1, "status", 10).due(0, "act", 4, 0, 5).due(-1, "trace", 0)
            .due(0, "status", 10);
        s.due(3 * 2, "act", 3, 1, 0).due(2, "status", 10).due(0, "act", 3, -1, 5).due(-1, "trace", 0)
            .due(0, "status", 10);
        s.due(3 * 2 ^ 3, "act", 3, 2, 0).due(4, "status", 10).due(0, "act", 3, 3, 5).due(-1, "trace", 0)
            .due(-1, "trace", 3).due(0, "status", 10);
        s.due(0, "act", -1, 0, 5).due(0, "act", Integer.MAX_VALUE, 0, 5).due(0, "act", Integer.MIN_VALUE, 0, 5)
            .due(0, "act", 0, Integer.MAX_VALUE, 5).due(0, "act", 0, Integer.MIN_VALUE, 5).due(0, "act", 4, 3, 5);
        for (int refusal = 11; refusal <= 17; refusal++) {
            s.due(0, "status", refusal);
        }
    }

    private void actWraps() {
        int most = Integer.MAX_VALUE;
        int least = Integer.MIN_VALUE;
        // RIDER 1, a 9 of each KIND: what rides and pulls answer for the greatest and the least x
        int[] ridesMost = {most + 1, most + 1 + 9, most + 1, most + 1 + 9, most, most + 1, 2 * most};
        int[] ridesLeast = {least + 1, least + 1 + 9, least + 1, least + 1 + 9, least, least + 1, 0};
        int[] pullsMost = {0, 18, 0, 20, -2, 0, (most - 9) * 2 * 2};
        int[] pullsLeast = {2, 20, 6, 22, 0, 6, (least - 9) * 2 * 2};
        for (int kind = 0; kind < 7; kind++) {
            Sentence s = sentence("ACTS of RIDERS, with x (wrapping): of KIND " + kind).riders(0, 0, kind, 9);
            s.due(ridesMost[kind], "act", 1, 0, most).due(ridesLeast[kind], "act", 1, 0, least);
            s.due(pullsMost[kind], "act", 1, 1, most).due(pullsLeast[kind], "act", 1, 1, least);
        }
        Sentence s = sentence("12 waits: pulls(x) ^ rides(x - k), wrapping").riders(0, 9);
        s.due(0 ^ least - 9, "act", 0, 2, least).due(-2 ^ most - 9, "act", 0, 2, most);
    }

    private void actToughWaits() {
        Sentence s = sentence("60 waits: super.waits(x) ^ 5").riders(5, 0);
        // pulls 6 x, rides x
        for (int x = 0; x < 12; x++) {
            s.due(6 * x ^ x ^ 5, "act", 0, 2, x);
        }
    }

    private void trace() {
        Sentence s = sentence("THE TRACE's i-th body. NONE: none such").riders(6, 1);
        s.due(-1, "trace", 0).due(-1, "trace", -1).due(0, "status", 10);
        s.call("act", 0, 2, 4);
        int[] due = {50, 12, 71, 11, 70, 51, 10, 70, 51, 10};
        for (int i = 0; i < due.length; i++) {
            s.due(due[i], "trace", i);
        }
        s.due(-1, "trace", 10).due(-1, "trace", 19).due(-1, "trace", 20).due(-1, "trace", -1)
            .due(-1, "trace", Integer.MAX_VALUE).due(-1, "trace", Integer.MIN_VALUE).due(10, "status", 10);
        s.call("act", 0, 0, 4);
        s.due(70, "trace", 0).due(10, "trace", 2).due(-1, "trace", 3).due(3, "status", 10);
        for (int refusal = 11; refusal <= 17; refusal++) {
            s.due(0, "status", refusal);
        }
    }

    private void image() {
        Sentence s = sentence("restore: -6 there is none");
        s.due(-6, "restore").due(1, "status", 16).due(0, "image").due(0, "restore").due(1, "status", 16);
        s = sentence("THE IMAGE is taken: how many RIDERS: nobody and as many as there can be");
        s.due(0, "image").plainRiders(4).due(0, "restore").due(0, "status", 0).due(0, "rider", 0, 0);
        s.plainRiders(3).due(4, "image").due(-7, "rider", 0, 0).due(4, "restore").due(4, "status", 0)
            .due(-7, "rider", 0, 0);
        s = sentence("all but SHELVES (and THE IMAGE, REFUSALS, the FAULT, THE TRACE)").plainRiders(1);
        s.faulty(4, "top 1").row(0, 5);
        s.call("act", 0, 0, 9);
        s.due(1, "image").due(4, "fault").due(1, "status", 16);
        s.row(0, 6).faulty(5, "foot 1");
        s.call("act", 0, 1, 9);
        s.call("ask", 9, 9);
        s.call("seed", 5);
        s.due(1, "restore").due(6, "element", 0, 0).due(5, "fault").due(11, "trace", 0).due(2, "status", 10)
            .due(3, "status", 16).due(1, "status", 9);
        s.call("move", 700);
        s.due(1, "restore").due(60, "status", 4);
    }

    private void restoredShelves() {
        Sentence s = sentence("SHELVES with RIDERS hold those of these numbers, or NOTHING").plainRiders(2);
        s.due(2, "image").plainRiders(2);
        for (int shelf = 0; shelf < 4; shelf++) {
            s.due(1, "show", shelf, shelf).due(1, "show", 4 + shelf, 3 - shelf);
        }
        s.row(4, 8).due(2, "restore");
        int[] due = {0, 1, -1, -1, 102, -1, 1, 0};
        for (int shelf = 0; shelf < 8; shelf++) {
            s.due(due[shelf], "holds", shelf);
        }
        s.due(-3, "says", 2, 0).due(0, "says", 1, 0).due(8, "element", 4, 0);
        s.plainRiders(2).due(-1, "holds", 2).due(-1, "holds", 3).due(-1, "holds", 5);
    }

    private void status() {
        Sentence s = sentence("status: 0 RIDERS .. 11 to 17: REFUSALS; NONE for another what");
        int[] due = {0, 0, 1, 0, 60, 0, 6, 3, 0, 1, 0, 0, 0, 0, 0, 0, 0, 0};
        for (int what = 0; what < due.length; what++) {
            s.due(due[what], "status", what);
        }
        s.due(-1, "status", -1).due(-1, "status", 18).due(-1, "status", Integer.MAX_VALUE)
            .due(-1, "status", Integer.MIN_VALUE).due(0, "status", 11).due(0, "status", 15);
        s = sentence("status: 1 at the TOP (bits): none, each, all").plainRiders(4);
        s.due(0, "status", 1);
        for (int r = 0; r < 4; r++) {
            s.call("tell", r, 0, 1);
            s.due((2 << r) - 1, "status", 1);
        }
        s.call("tell", 1, 0, 0);
        s.due(13, "status", 1);
        s = sentence("11 to 17: REFUSALS -1 to -7: each counts alone").plainRiders(4).row(0);
        s.call("show", 1, 0);
        s.due(-1, "row", 8, 0, 0).due(-2, "set", 1, 0, 0).due(-3, "set", 2, 0, 0).due(-4, "row", 0, 0, -1)
            .due(-5, "set", 0, 0, 0).due(-6, "row", 0, 4, 0).due(-7, "rider", 0, 0);
        for (int refusal = 11; refusal <= 17; refusal++) {
            s.due(1, "status", refusal);
        }
        s.due(-7, "row", 0, 0, 161).due(2, "status", 17).due(1, "status", 16);
    }
}
