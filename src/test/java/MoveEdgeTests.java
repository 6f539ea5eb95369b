/** The boundary sentences of 'MOVES', of the Details on them and of promises 16 to 19, 29 and 30. */
final class MoveEdgeTests {
    private static final int RIDER = 0;
    private static final int HEAVY = 1;
    private static final int STRONG = 2;
    private static final int STEERER = 3;
    private static final int SMALL = 4;
    private static final int TOUGH = 5;
    private static final int BABY = 6;
    private final Tally t;

    private MoveEdgeTests(Tally t) {
        this.t = t;
    }

    static void run(Tally t) {
        MoveEdgeTests tests = new MoveEdgeTests(t);
        tests.numbersOfMoves();
        tests.downTakesOneAtLeast();
        tests.pullTakesOneAtLeast();
        tests.byTwoAsEachIsHeld();
        tests.tenthsAndHalvesAreCut();
        tests.beginsWhere();
        tests.sledgeAndPenny();
        tests.noMoreMinutesThanThereAre();
        tests.tiredAfterPulls();
        tests.tiredAtMost();
        tests.tiredAtLeast();
        tests.waited();
        tests.runs();
        tests.next();
        tests.aheadTies();
        tests.aheadOfNoMoves();
        tests.aheadIsAsked();
        tests.who();
        tests.move();
    }

    private Sentence sentence(String words) {
        return new Sentence(t, words);
    }

    private void numbersOfMoves() {
        Sentence s = sentence("another one, greater (else 0)").plainRiders(4);
        for (int sort : new int[] {100, 300}) {
            for (int move : new int[] {1, 2, 3, 12, 13, 23}) {
                s.due(sort == 100 ? 2 : 6, "takes", sort + move);
            }
            for (int move : new int[] {0, 10, 11, 21, 32, 33, 4, 34, 40, 45, 99}) {
                s.due(-6, "takes", sort + move).due(-6, "may", sort + move);
            }
        }
        for (int move : new int[] {1, 9, 39, 201, 231, 401, 431, 501, 531, 601, 631}) {
            s.due(-6, "takes", move).due(-6, "may", move);
        }
        s = sentence("MOVES are told as 100 times a SORT: 0 .. 7").plainRiders(4);
        s.due(3, "takes", 0).due(5, "takes", 700).due(-6, "takes", -1).due(-6, "takes", 800).due(-6, "takes", 699);
        s.due(-6, "may", -1).due(-6, "may", 800).due(-6, "may", 699).due(-6, "takes", Integer.MAX_VALUE)
            .due(-6, "takes", Integer.MIN_VALUE).due(-6, "may", Integer.MIN_VALUE);
        s = sentence("7 REST (700 alone)").plainRiders(4);
        s.due(5, "takes", 700).due(1, "may", 700);
        for (int move : new int[] {701, 703, 710, 712, 730, 799}) {
            s.due(-6, "takes", move).due(-6, "may", move).due(-6, "move", move);
        }
        s = sentence("-6 it is none of those RIDERS there are").riders(0, 0);
        for (int sort : new int[] {0, 200, 400, 500, 600}) {
            s.due(-6, "takes", sort + 10).due(-6, "may", sort + 10);
            s.due(sort == 200 || sort == 400 ? 1 : 0, "may", sort);
        }
        s.due(-6, "takes", 101).due(-6, "may", 301).due(1, "rider", 0, 0).due(2, "takes", 101).due(1, "may", 301);
    }

    private void downTakesOneAtLeast() {
        int[] kinds = {RIDER, HEAVY, STRONG, STEERER, SMALL, TOUGH, BABY};
        // at LONG 1, 2, 3, 4
        int[][] alone = {{1, 2, 3, 4}, {1, 1, 2, 3}, {1, 2, 3, 4}, {1, 1, 1, 2}, {2, 3, 4, 5}, {1, 2, 3, 4},
            {2, 3, 4, 5}};
        int[][] byTwo = {{1, 1, 2, 3}, {1, 1, 1, 2}, {1, 1, 2, 3}, {1, 1, 1, 1}, {1, 2, 3, 4}, {1, 1, 2, 3},
            {1, 2, 3, 4}};
        for (int kind : kinds) {
            Sentence s = sentence("DOWN alone takes 1 at least of each KIND; by two 1 at least");
            s.riders(kind, 0, kind, 9);
            for (int length = 1; length <= 4; length++) {
                s.call("ask", 3, length);
                s.due(alone[kind][length - 1], "takes", 0).due(byTwo[kind][length - 1], "takes", 101);
                s.due(length + 1, "takes", 600);
            }
        }
    }

    private void pullTakesOneAtLeast() {
        // at STEEP 1, 2, 3, 4, 5
        int[][] alone = {{1, 2, 3, 4, 5}, {1, 2, 3, 4, 5}, {1, 1, 1, 2, 3}, {1, 2, 3, 4, 5}, {3, 4, 5, 6, 7},
            {1, 1, 1, 1, 2}, {2, 4, 6, 8, 10}};
        for (int kind = 0; kind < 7; kind++) {
            Sentence s = sentence("PULL alone takes 1 at least of each KIND; by two 1 at least");
            s.riders(kind, 0, kind, 9);
            for (int steep = 1; steep <= 5; steep++) {
                s.call("ask", 2, steep);
                s.due(alone[kind][steep - 1], "takes", 200).due(alone[kind][steep - 1], "takes", 301);
            }
        }
        Sentence s = sentence("PULL by two: 1 at least").riders(TOUGH, 0, STRONG, 0);
        s.call("ask", 2, 1);
        s.due(1, "takes", 301);
        s.call("ask", 2, 4);
        s.due(1, "takes", 301);
        s.call("ask", 2, 5);
        s.due(2, "takes", 301);
    }

    private void byTwoAsEachIsHeld() {
        Sentence s = sentence("by two they go by what each takes alone, held so").riders(TOUGH, 0, RIDER, 0, BABY, 0);
        s.call("ask", 2, 1);
        s.call("tell", 1, 1, 20);
        // TOUGH is held at 1 (not -2): with 3 that are 4, with 2 of the BABY 3
        s.due(1, "takes", 200).due(3, "takes", 210).due(2, "takes", 301).due(2, "takes", 220).due(1, "takes", 302);
        s = sentence("by two they go by what each takes alone, held so").riders(STEERER, 0, BABY, 0);
        s.call("ask", 3, 1);
        s.due(1, "takes", 0).due(2, "takes", 10).due(1, "takes", 101);
        s.call("ask", 3, 5);
        s.due(3, "takes", 0).due(6, "takes", 10).due(2, "takes", 101);
    }

    private void tenthsAndHalvesAreCut() {
        Sentence s = sentence("a tenth of TIRED (cut)").riders(RIDER, 0, BABY, 0);
        int[] tired = {0, 9, 10, 19, 20, 89, 90, 99};
        int[] tenth = {0, 0, 1, 1, 2, 8, 9, 9};
        for (int i = 0; i < tired.length; i++) {
            s.call("tell", 0, 1, tired[i]);
            s.call("tell", 1, 1, tired[i]);
            s.due(6 + tenth[i], "takes", 200).due(2 * (6 + tenth[i]), "takes", 210);
            s.due(3 + tenth[i] + 1, "takes", 400).due(3 + tenth[i] + 1, "takes", 410);
        }
        s = sentence("WALK up: half of STEEP (cut)").plainRiders(1);
        int[] half = {0, 1, 1, 2, 2, 3, 3, 4, 4};
        for (int steep = 1; steep <= 9; steep++) {
            s.call("ask", 2, steep);
            s.due(half[steep - 1] + 1, "takes", 400);
        }
        s = sentence("PULL by two: half of both alone together (cut)").riders(RIDER, 0, STRONG, 0, TOUGH, 0, SMALL, 0);
        // 6, 4, 3 and 8
        s.due(5, "takes", 301).due(4, "takes", 302).due(7, "takes", 303).due(3, "takes", 312).due(6, "takes", 313)
            .due(5, "takes", 323);
        s = sentence("takes(): wherever all are").plainRiders(2);
        s.call("sledges", 0, 0);
        s.call("ask", 0, 0);
        for (int where = 0; where <= 1; where++) {
            s.call("tell", 0, 0, where);
            s.due(3, "takes", 0).due(2, "takes", 101).due(6, "takes", 200).due(6, "takes", 301).due(4, "takes", 400)
                .due(2, "takes", 500).due(4, "takes", 600).due(5, "takes", 700);
        }
    }

    private void beginsWhere() {
        int[] moves = {0, 200, 400, 500, 600, 700};
        int[][] due = {{0, 1, 1, 1, 0, 1}, {1, 0, 0, 0, 1, 1}};
        for (int where = 0; where <= 1; where++) {
            Sentence s = sentence("those who move being where they begin").plainRiders(1);
            s.call("sledges", 1, 1);
            s.call("ask", 1, 1);
            s.call("tell", 0, 0, where);
            for (int i = 0; i < moves.length; i++) {
                s.due(due[where][i], "may", moves[i]);
            }
        }
        for (int bits = 0; bits < 4; bits++) {
            Sentence s = sentence("those who move being where they begin: both").plainRiders(2);
            s.call("sledges", 1, 1);
            s.call("tell", 0, 0, bits & 1);
            s.call("tell", 1, 0, bits >> 1);
            s.due(bits == 3 ? 1 : 0, "may", 101).due(bits == 0 ? 1 : 0, "may", 301);
        }
        Sentence s = sentence("those who move come to the other end (REST: nobody does)").plainRiders(3);
        s.call("sledges", 1, 2);
        s.due(54, "move", 301).due(3, "status", 1).due(52, "move", 101).due(0, "status", 1);
        s.due(48, "move", 400).due(1, "status", 1).due(44, "move", 600).due(0, "status", 1);
        s.due(39, "move", 700).due(0, "status", 1).due(0, "tell", 1, 0, 1).due(34, "move", 700).due(2, "status", 1);
    }

    private void sledgeAndPenny() {
        Sentence s = sentence("a SLEDGE being there: at the TOP").plainRiders(2);
        s.call("tell", 0, 0, 1);
        s.call("tell", 1, 0, 1);
        s.call("sledges", 3, 0);
        s.due(0, "may", 0).due(0, "may", 101).due(-6, "move", 0).due(1, "may", 600);
        s.call("sledges", 2, 1);
        s.due(1, "may", 0).due(1, "may", 101).due(58, "move", 101).due(3, "status", 2).due(0, "status", 3);
        s = sentence("a SLEDGE being there: at the FOOT").plainRiders(2);
        s.call("ask", 1, 1);
        s.call("sledges", 0, 3);
        s.due(0, "may", 200).due(0, "may", 301).due(0, "may", 500).due(-6, "move", 200).due(1, "may", 400);
        s.call("sledges", 1, 2);
        s.due(1, "may", 200).due(1, "may", 301).due(1, "may", 500).due(54, "move", 301).due(0, "status", 2)
            .due(3, "status", 3);
        s = sentence("a SLEDGE with them (SORTS 0 to 3, 5), and with no others").plainRiders(2);
        s.call("sledges", 1, 1);
        s.due(56, "move", 400).due(1, "status", 2).due(1, "status", 3);
        s.due(52, "move", 600).due(1, "status", 2).due(1, "status", 3);
        s.due(47, "move", 700).due(1, "status", 2).due(1, "status", 3);
        s.due(41, "move", 200).due(0, "status", 2).due(2, "status", 3);
        s.due(38, "move", 0).due(1, "status", 2).due(1, "status", 3);
        s = sentence("LIFT up, for a PENNY").plainRiders(1);
        s.due(0, "may", 500).due(-6, "move", 500);
        s.call("ask", 1, 1);
        s.due(1, "may", 500).due(58, "move", 500).due(0, "status", 5).due(1, "status", 1).due(0, "status", 2)
            .due(1, "status", 3).rider(0, 1, 0, 0, 0);
        s.call("day", 60);
        s.due(0, "may", 500).due(0, "status", 5);
    }

    private void noMoreMinutesThanThereAre() {
        int[] moves = {10, 112, 200, 303, 400, 500, 610, 700};
        int[] takes = {3, 2, 6, 6, 4, 2, 4, 5};
        for (int i = 0; i < moves.length; i++) {
            Sentence s = sentence("no more minutes than there are till DARK").plainRiders(4);
            s.call("sledges", 1, 1);
            s.call("ask", 1, 1);
            s.call("tell", 1, 0, 1);
            s.call("tell", 2, 0, 1);
            s.due(takes[i], "takes", moves[i]);
            s.due(60, "ask", 0, takes[i] - 1).due(0, "may", moves[i]).due(-6, "move", moves[i])
                .due(takes[i] - 1, "status", 4);
            s.due(takes[i] - 1, "ask", 0, takes[i]).due(1, "may", moves[i]).due(0, "move", moves[i])
                .due(0, "status", 4).due(0, "next", -1);
        }
    }

    private void tiredAfterPulls() {
        int[][] due = {{8, 4}, {17, 8}};
        for (int kind : new int[] {RIDER, HEAVY, STEERER, SMALL, BABY}) {
            for (int i = 0; i < 2; i++) {
                Sentence s = sentence("PULL alone: (8 plus a) more; by two: half of that each (cut)");
                s.riders(kind, 9 * i, kind, 9 * i);
                s.call("ask", 0, 999);
                s.call("image");
                s.call("move", 200);
                s.due(due[i][0], "riderOf", 0, 3).due(2, "restore");
                s.call("move", 301);
                s.due(due[i][1], "riderOf", 0, 3).due(due[i][1], "riderOf", 1, 3);
            }
        }
        for (int kind : new int[] {STRONG, TOUGH}) {
            for (int a = 0; a <= 9; a += 9) {
                Sentence s = sentence("A STRONG one becomes TIRED by 5, without a; by two each by half of his own");
                s.riders(kind, a, RIDER, 4);
                s.call("image");
                s.call("move", 200);
                s.due(5, "riderOf", 0, 3).due(2, "restore");
                s.call("move", 301);
                s.due(2, "riderOf", 0, 3).due(6, "riderOf", 1, 3);
            }
        }
        Sentence s = sentence("WALK up: 3 more").riders(RIDER, 9, TOUGH, 9);
        s.due(56, "move", 400).rider(0, 1, 3, 0, 0).due(52, "move", 410).rider(1, 1, 3, 0, 4).rider(0, 1, 0, 0, 4);
        s = sentence("nobody who goes DOWN, is LIFTED or WALKS down is more TIRED").plainRiders(2);
        s.call("ask", 1, 1);
        s.call("tell", 0, 1, 40);
        s.call("move", 500);
        s.due(40, "riderOf", 0, 3);
        s.call("move", 0);
        s.due(40, "riderOf", 0, 3).due(0, "tell", 0, 0, 1);
        s.call("move", 600);
        s.due(40, "riderOf", 0, 3);
    }

    private void tiredAtMost() {
        // KIND, TIRED ahead, the MOVE, TIRED behind
        int[][] due = {{RIDER, 91, 200, 99}, {RIDER, 92, 200, 99}, {RIDER, 90, 200, 98}, {RIDER, 99, 200, 99},
            {RIDER, 95, 301, 99}, {RIDER, 96, 301, 99}, {RIDER, 94, 301, 98}, {RIDER, 96, 400, 99},
            {RIDER, 97, 400, 99}, {RIDER, 95, 400, 98}, {STRONG, 94, 200, 99}, {STRONG, 95, 200, 99},
            {STRONG, 93, 200, 98}, {TOUGH, 97, 301, 99}, {TOUGH, 98, 301, 99}, {TOUGH, 96, 301, 98}};
        for (int[] row : due) {
            Sentence s = sentence("TIRED is 99 at most always").riders(row[0], 0, row[0], 0);
            s.call("tell", 0, 1, row[1]);
            s.call("tell", 1, 1, row[1]);
            s.call("move", row[2]);
            s.due(row[3], "riderOf", 0, 3);
            if (row[2] == 301) {
                s.due(row[3], "riderOf", 1, 3);
            }
        }
    }

    private void tiredAtLeast() {
        Sentence s = sentence("those who don't move as many less as it took minutes (0 at least)").plainRiders(4);
        s.call("tell", 1, 1, 3);
        s.call("tell", 2, 1, 4);
        s.call("tell", 3, 1, 5);
        s.due(56, "move", 400).rider(1, 0, 0, 0, 4).rider(2, 0, 0, 0, 4).rider(3, 0, 1, 0, 4);
        s = sentence("at a REST all as many less as it took minutes (0 at least)").plainRiders(4);
        s.call("tell", 0, 1, 4);
        s.call("tell", 1, 1, 5);
        s.call("tell", 2, 1, 6);
        s.call("tell", 3, 1, 99);
        s.due(55, "move", 700).rider(0, 0, 0, 0, 0).rider(1, 0, 0, 0, 0).rider(2, 0, 1, 0, 0).rider(3, 0, 94, 0, 0);
    }

    private void waited() {
        Sentence s = sentence("those who don't move have WAITED so much longer (at a REST nobody)").plainRiders(3);
        s.due(54, "move", 301).rider(0, 1, 4, 0, 0).rider(1, 1, 4, 0, 0).rider(2, 0, 0, 0, 6);
        s.due(52, "move", 101).rider(0, 0, 4, 1, 0).rider(1, 0, 4, 1, 0).rider(2, 0, 0, 0, 8);
        s.due(47, "move", 700).rider(0, 0, 0, 1, 0).rider(2, 0, 0, 0, 8);
        s.due(41, "move", 220).rider(0, 0, 0, 1, 6).rider(1, 0, 0, 1, 6).rider(2, 1, 8, 0, 8);
        s.row(0, 20).due(2 * 9 + 8, "behind", 0, 1, 2).due(2 * 6 + 8, "behind", 0, 0, 2);
    }

    private void runs() {
        Sentence s = sentence("RUNS of those who went DOWN with a SLEDGE 1 more").plainRiders(3);
        s.call("sledges", 0, 3);
        for (int r = 0; r < 3; r++) {
            s.call("tell", r, 0, 1);
        }
        s.due(57, "move", 0).due(1, "status", 8).due(55, "move", 112).due(3, "status", 8);
        for (int r = 0; r < 3; r++) {
            s.due(1, "riderOf", r, 4);
        }
        s.due(0, "tell", 0, 0, 1).due(51, "move", 600).due(3, "status", 8).due(1, "riderOf", 0, 4);
    }

    private void next() {
        Sentence s = sentence("NEXT: how many (i NONE), the i-th; -5: none at all").plainRiders(4);
        s.call("ask", 0, 0);
        s.due(0, "next", -1).due(-5, "next", 0).due(-5, "next", -2);
        s = sentence("NEXT: how many (i NONE), the i-th; -5: nobody there, so that REST is all");
        s.due(1, "next", -1).due(700, "next", 0).due(-5, "next", 1);
        s = sentence("NEXT: how many (i NONE), the i-th; -5: as many as there can be").plainRiders(4);
        s.call("ask", 1, 1);
        int[] due = {200, 210, 220, 230, 301, 302, 303, 312, 313, 323, 400, 410, 420, 430, 500, 510, 520, 530, 700};
        s.due(due.length, "next", -1);
        for (int i = 0; i < due.length; i++) {
            s.due(due[i], "next", i);
        }
        s.due(-5, "next", due.length).due(-5, "next", Integer.MAX_VALUE).due(-5, "next", Integer.MIN_VALUE);
        s = sentence("NEXT: all at the TOP").plainRiders(4);
        s.call("sledges", 0, 1);
        int[] top = {0, 10, 20, 30, 101, 102, 103, 112, 113, 123, 600, 610, 620, 630, 700};
        for (int r = 0; r < 4; r++) {
            s.call("tell", r, 0, 1);
        }
        s.due(top.length, "next", -1);
        for (int i = 0; i < top.length; i++) {
            s.due(top[i], "next", i);
        }
        s.due(-5, "next", top.length);
    }

    private void ahead(Sentence s, int d, int runs, int... moves) {
        s.due(runs, "ahead", d, -1);
        for (int i = 0; i < moves.length; i++) {
            s.due(moves[i], "ahead", d, i);
        }
        s.due(-5, "ahead", d, moves.length);
    }

    private void aheadTies() {
        Sentence s = sentence("AHEAD: of all rows of d MOVES at most").plainRiders(1);
        ahead(s, 1, 0);
        ahead(s, 2, 1, 200, 0);
        ahead(s, 3, 1, 200, 0);
        s = sentence("AHEAD: of several the one that takes the fewest minutes").riders(RIDER, 0, TOUGH, 0);
        ahead(s, 2, 2, 301, 101);
        s.call("ask", 0, 5);
        // PULL 6 is too long for 0 and by two 4 and DOWN 2 too: 1 PULLS 3, DOWN 3 does not fit either
        ahead(s, 2, 0);
        s.call("ask", 0, 6);
        ahead(s, 2, 2, 301, 101);
        s.call("tell", 0, 1, 90);
        ahead(s, 2, 1, 210, 10);
        s = sentence("AHEAD: of several the first (by rows of numbers)").plainRiders(3);
        s.call("sledges", 0, 1);
        for (int r = 0; r < 3; r++) {
            s.call("tell", r, 0, 1);
        }
        ahead(s, 1, 2, 101);
        s.call("tell", 0, 0, 0);
        ahead(s, 1, 2, 112);
        s.call("tell", 1, 0, 0);
        ahead(s, 1, 1, 20);
        s = sentence("AHEAD: one that goes on behind one that ends").plainRiders(1);
        s.call("sledges", 0, 1);
        s.call("tell", 0, 0, 1);
        ahead(s, 1, 1, 0);
        ahead(s, 2, 1, 0);
        // DOWN 3, PULL 6, DOWN 3
        ahead(s, 3, 2, 0, 200, 0);
        s.call("ask", 0, 11);
        ahead(s, 3, 1, 0);
    }

    private void aheadOfNoMoves() {
        Sentence s = sentence("The row of no MOVES counts for AHEAD").plainRiders(1);
        s.call("sledges", 0, 1);
        s.call("tell", 0, 0, 1);
        ahead(s, 1, 1, 0);
        // nothing that could be brings a RUN now, however few minutes it takes: WALK up one
        s.call("sledges", 0, 0);
        s.call("ask", 2, 1);
        s.call("tell", 0, 0, 0);
        s.due(1, "takes", 400).due(-5, "ahead", 3, 0);
        ahead(s, 3, 0);
        s.call("tell", 0, 0, 1);
        ahead(s, 3, 0);
        s.call("ask", 0, 0);
        ahead(s, 1, 0);
        ahead(sentence("The row of no MOVES counts for AHEAD: nobody there"), 3, 0);
    }

    private void aheadIsAsked() {
        Sentence s = sentence("AHEAD d (1 to 3)").plainRiders(2);
        s.due(-6, "ahead", 0, -1).due(0, "ahead", 1, -1).due(2, "ahead", 3, -1).due(-6, "ahead", 4, -1);
        s.due(-6, "ahead", -1, 0).due(-6, "ahead", Integer.MAX_VALUE, 0).due(-6, "ahead", Integer.MIN_VALUE, -1);
        s = sentence("In AHEAD an i below -1 is -5 ahead of d").plainRiders(2);
        s.due(-5, "ahead", 0, -2).due(-5, "ahead", 4, -2).due(-5, "ahead", 4, Integer.MIN_VALUE)
            .due(-5, "ahead", 2, -2).due(4, "status", 15).due(0, "status", 16);
        s = sentence("whether there is an i-th MOVE is asked behind it").plainRiders(2);
        s.due(-6, "ahead", 4, 2).due(-6, "ahead", 0, Integer.MAX_VALUE).due(-5, "ahead", 2, 2)
            .due(-5, "ahead", 2, Integer.MAX_VALUE).due(2, "status", 15).due(2, "status", 16);
    }

    private void who() {
        Sentence s = sentence("who: of several the first").plainRiders(4);
        s.due(0, "who", 0).due(0, "who", 1).due(0, "who", 2);
        s.call("tell", 0, 1, 1);
        s.due(1, "who", 0);
        s.call("tell", 1, 1, 1);
        s.call("tell", 2, 1, 1);
        s.call("tell", 3, 1, 1);
        s.due(0, "who", 0);
        s.call("tell", 3, 1, 0);
        s.due(3, "who", 0);
        s.call("tell", 0, 1, 99);
        s.call("tell", 1, 1, 99);
        s.call("tell", 2, 1, 98);
        s.call("tell", 3, 1, 99);
        s.due(2, "who", 0);
        s = sentence("who: least TIRED (what 0), most RUNS (1), WAITED longest (2)").plainRiders(2);
        s.call("move", 200);
        s.call("move", 0);
        s.due(1, "who", 0).due(0, "who", 1).due(1, "who", 2);
        s = sentence("who: -5 no RIDERS, another what");
        s.due(-5, "who", 0).due(-5, "who", 3).plainRiders(1).due(-5, "who", -1).due(-5, "who", 3).due(0, "who", 0)
            .due(0, "who", 2).due(-5, "who", Integer.MIN_VALUE).due(-5, "who", Integer.MAX_VALUE);
    }

    private void move() {
        Sentence s = sentence("move: minutes left; -6 it MAY not be").plainRiders(1);
        s.call("ask", 0, 11);
        s.due(5, "move", 200).due(2, "move", 0).due(-6, "move", 700).due(-6, "move", 400).due(2, "status", 4)
            .due(1, "status", 8);
        s.call("ask", 0, 5);
        s.due(0, "move", 700).due(-6, "move", 700).due(0, "status", 4).due(3, "status", 16);
    }
}
