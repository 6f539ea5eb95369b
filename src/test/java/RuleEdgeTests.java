/** The boundary sentences on RULES, FAIR, BEST, FITS, ROAD and PENNIES, of promises 20 to 22, 26 to 28 and 31. */
final class RuleEdgeTests {
    private static final int TOUGH = 5;
    private final Tally t;

    private RuleEdgeTests(Tally t) {
        this.t = t;
    }

    static void run(Tally t) {
        RuleEdgeTests tests = new RuleEdgeTests(t);
        tests.togetherNeedsBoth();
        tests.togetherTillDark();
        tests.oneTurn();
        tests.leftOut();
        tests.rested();
        tests.restedOfTheMostTired();
        tests.strongestInItsOrder();
        tests.strongestOfSeveral();
        tests.behindThe300thMove();
        tests.byIsAsked();
        tests.runsMore();
        tests.fair();
        tests.best();
        tests.bestOfSeveral();
        tests.fits();
        tests.road();
        tests.roadTies();
        tests.pennies();
        tests.penniesAndLifts();
        tests.goes();
        tests.goesBeginsWithRiderZero();
    }

    private Sentence sentence(String words) {
        return new Sentence(t, words);
    }

    /** What by() tells: RUNS more, minutes left, MOVES. */
    private static Sentence by(Sentence s, int rule, int runs, int minutes, int moves) {
        return s.due(runs, "by", rule, -1).due(minutes, "by", rule, 4).due(moves, "by", rule, 5);
    }

    private void togetherNeedsBoth() {
        by(sentence("0 TOGETHER: nobody there"), 0, 0, 60, 0);
        by(sentence("0 TOGETHER: one alone").plainRiders(1), 0, 0, 60, 0);
        Sentence s = sentence("0 TOGETHER: RIDERS 0 and 1, and no others").plainRiders(3);
        s.call("tell", 0, 0, 1);
        s.call("sledges", 1, 1);
        by(s, 0, 0, 60, 0);
        s.call("tell", 2, 0, 1);
        by(s, 0, 0, 60, 0);
        s.call("tell", 1, 0, 1);
        s.call("ask", 0, 2);
        by(s, 0, 2, 0, 1).due(1, "by", 0, 0).due(1, "by", 0, 1).due(0, "by", 0, 2);
        s.call("sledges", 3, 0);
        by(s, 0, 0, 2, 0);
    }

    private void togetherTillDark() {
        Sentence s = sentence("till nothing MAY be by them").plainRiders(2);
        // PULL 6, DOWN 2, PULL 6
        int[][] due = {{5, 0, 5, 0}, {6, 0, 0, 1}, {7, 0, 1, 1}, {8, 2, 0, 2}, {13, 2, 5, 2}, {14, 2, 0, 3},
            {15, 2, 1, 3}, {16, 4, 0, 4}};
        for (int[] row : due) {
            s.call("ask", 0, row[0]);
            by(s, 0, row[1], row[2], row[3]);
        }
    }

    private void oneTurn() {
        Sentence s = sentence("RULE 1: one turn is DOWN and PULL behind it, as far as they MAY be").plainRiders(2);
        s.call("tell", 0, 0, 1);
        s.call("tell", 1, 0, 1);
        s.call("sledges", 0, 2);
        // 0: DOWN 3, PULL 6; 1: DOWN 3, PULL 6
        int[][] due = {{2, 0, 0, 2}, {3, 1, 0, 0}, {5, 1, 0, 2}, {6, 1, 1, 0}, {9, 1, 0, 0}, {12, 1, 1, 0}};
        for (int[] row : due) {
            s.call("ask", 0, row[0]);
            s.due(row[1], "by", 1, 0).due(row[2], "by", 1, 1).due(row[3], "by", 1, 4);
        }
        s = sentence("each: DOWN alone if it MAY be, then PULL alone (one who is at the FOOT only that)").plainRiders(2);
        s.due(3, "goes", 1, 3).due(1, "status", 1).due(1, "riderOf", 0, 4).due(0, "riderOf", 1, 4);
    }

    private void leftOut() {
        Sentence s = sentence("one of whom neither MAY be is left out").plainRiders(3);
        s.call("tell", 0, 0, 1);
        // no SLEDGE at the TOP for 0: 1 PULLS it up, 2 is left out, 0 goes DOWN with it
        s.due(2, "goes", 1, 2).due(2, "status", 1).due(1, "riderOf", 0, 4).rider(1, 1, 5, 0, 3).rider(2, 0, 0, 0, 9);
        s = sentence("none of whom: the end").plainRiders(2);
        s.call("sledges", 0, 3);
        by(s, 1, 0, 60, 0).due(0, "goes", 1, 60);
        by(sentence("none of whom: the end; nobody there"), 1, 0, 60, 0);
        s = sentence("none of whom: the end; the first has no minutes left, the second has").riders(0, 0, TOUGH, 0);
        s.call("ask", 0, 5);
        by(s, 1, 0, 2, 1);
    }

    private void rested() {
        Sentence s = sentence("2 RESTED: DOWN alone of the least TIRED, of several the first").plainRiders(4);
        s.call("sledges", 0, 3);
        for (int r = 0; r < 4; r++) {
            s.call("tell", r, 0, 1);
            s.call("tell", r, 1, 40);
        }
        s.call("image");
        s.due(1, "goes", 2, 1).due(14, "status", 1).due(4, "restore");
        s.call("tell", 3, 1, 39);
        s.due(1, "goes", 2, 1).due(7, "status", 1).due(4, "restore");
        s.call("tell", 2, 1, 39);
        s.call("tell", 3, 1, 39);
        s.due(1, "goes", 2, 1).due(11, "status", 1).due(4, "restore");
        s = sentence("if there is none, of all MOVES PULL alone likewise").plainRiders(4);
        for (int r = 0; r < 4; r++) {
            s.call("tell", r, 1, 9 - r / 2);
        }
        s.due(1, "goes", 2, 1).due(4, "status", 1);
        s = sentence("DOWN ahead of PULL, however TIRED").plainRiders(2);
        s.call("sledges", 1, 1);
        s.call("tell", 0, 0, 1);
        s.call("tell", 0, 1, 99);
        s.due(1, "goes", 2, 1).due(0, "status", 1).due(1, "status", 8);
        s = sentence("of all MOVES that MAY be: the least TIRED may have no minutes for it").riders(0, 0, TOUGH, 0);
        s.call("ask", 0, 5);
        s.call("tell", 1, 1, 1);
        s.due(1, "goes", 2, 1).due(2, "status", 1);
        by(sentence("2 RESTED: nobody there"), 2, 0, 60, 0);
    }

    private void restedOfTheMostTired() {
        Sentence s = sentence("2 RESTED: the least TIRED, though all are as TIRED as can be").plainRiders(2);
        s.call("tell", 0, 1, 99);
        s.call("tell", 1, 1, 99);
        s.due(1, "goes", 2, 1).due(1, "status", 1).due(45, "status", 4);
        s.call("tell", 0, 1, 99);
        s.due(1, "goes", 2, 1).due(0, "status", 1).due(1, "riderOf", 0, 4);
    }

    private void strongestInItsOrder() {
        Sentence s = sentence("3 STRONGEST: DOWN by two; else PULL alone; else WALK up; else DOWN alone").plainRiders(3);
        s.call("sledges", 1, 1);
        s.call("tell", 1, 0, 1);
        s.call("tell", 2, 0, 1);
        s.call("image");
        s.due(1, "goes", 3, 1).due(0, "status", 1).due(2, "status", 8).due(58, "status", 4).due(3, "restore");
        // no SLEDGE at the TOP: a PULL, though only one MAY PULL
        s.call("sledges", 1, 0);
        s.due(1, "goes", 3, 1).due(7, "status", 1).due(54, "status", 4).due(1, "status", 3).due(3, "restore");
        // one alone is at the TOP: a PULL, though he MAY go DOWN
        s.call("tell", 1, 0, 0);
        s.due(1, "goes", 3, 1).due(5, "status", 1).due(54, "status", 4).due(2, "status", 3).due(3, "restore");
        // no SLEDGE at the FOOT: a WALK up of the first
        s.call("sledges", 0, 1);
        s.call("tell", 1, 0, 0);
        s.due(1, "goes", 3, 1).due(5, "status", 1).due(56, "status", 4).due(1, "status", 3).due(3, "restore");
        // nobody has the minutes to WALK up: DOWN alone of the first
        s.call("sledges", 0, 2);
        s.call("tell", 1, 0, 0);
        s.call("ask", 0, 3);
        s.due(1, "goes", 3, 1).due(0, "status", 1).due(1, "status", 8).due(0, "status", 4).due(3, "restore");
        // nobody but one at the TOP without a SLEDGE: nothing
        s.call("sledges", 0, 0);
        s.call("tell", 0, 0, 1);
        by(s, 3, 0, 60, 0).due(0, "goes", 3, 1);
        by(sentence("3 STRONGEST: nobody there"), 3, 0, 60, 0);
    }

    private void strongestOfSeveral() {
        Sentence s = sentence("DOWN by two, the first that MAY be").plainRiders(4);
        s.call("sledges", 1, 1);
        for (int r = 1; r < 4; r++) {
            s.call("tell", r, 0, 1);
        }
        s.due(1, "goes", 3, 1).due(8, "status", 1);
        s = sentence("of all MOVES PULL alone that of the fewest minutes, of several the first").plainRiders(4);
        s.call("image");
        s.due(1, "goes", 3, 1).due(1, "status", 1).due(4, "restore");
        s.call("tell", 0, 1, 10);
        s.due(1, "goes", 3, 1).due(2, "status", 1).due(4, "restore");
        for (int r = 0; r < 3; r++) {
            s.call("tell", r, 1, 10);
        }
        s.due(1, "goes", 3, 1).due(8, "status", 1).due(4, "restore");
        s.call("tell", 0, 1, 9);
        s.due(1, "goes", 3, 1).due(1, "status", 1).due(4, "restore");
        s = sentence("of all MOVES PULL alone that of the fewest minutes: only the latest MAY PULL").plainRiders(2);
        s.call("tell", 0, 0, 1);
        s.due(1, "goes", 3, 1).due(3, "status", 1).due(54, "status", 4);
        s = sentence("else WALK up, the first").plainRiders(3);
        s.call("sledges", 0, 0);
        s.call("tell", 0, 1, 99);
        s.due(1, "goes", 3, 1).due(1, "status", 1);
        s = sentence("else DOWN alone, the first").plainRiders(3);
        s.call("sledges", 0, 2);
        s.call("tell", 1, 0, 1);
        s.call("ask", 0, 3);
        s.due(1, "goes", 3, 1).due(0, "status", 1).due(1, "riderOf", 1, 4);
    }

    /** Four TOUGH ones on the least hill: every MOVE of theirs takes a minute by TURNS and RESTED. */
    private Sentence minuteByMinute(String words) {
        Sentence s = sentence(words).riders(TOUGH, 0, TOUGH, 0, TOUGH, 0, TOUGH, 0);
        s.call("ask", 2, 1);
        s.call("ask", 3, 1);
        s.call("sledges", 0, 3);
        for (int r = 0; r < 4; r++) {
            s.call("tell", r, 0, 1);
        }
        return s;
    }

    private void behindThe300thMove() {
        for (int rule = 1; rule <= 2; rule++) {
            Sentence s = minuteByMinute("a RULE ends behind the 300th MOVE");
            int[][] due = {{298, 298, 0}, {299, 299, 0}, {300, 300, 0}, {301, 300, 1}, {999, 300, 699}};
            for (int[] row : due) {
                s.call("ask", 0, row[0]);
                s.due(row[1], "by", rule, 5).due(row[2], "by", rule, 4);
            }
            long runs = s.call("by", rule, -1);
            s.call("ask", 0, 300);
            s.due(runs, "by", rule, -1);
        }
        Sentence s = minuteByMinute("a RULE ends behind the 300th MOVE: STRONGEST");
        s.call("ask", 0, 999);
        s.due(300, "by", 3, 5);
        long needed = 999 - s.call("by", 3, 4);
        s.due(999, "ask", 0, needed).due(300, "by", 3, 5).due(0, "by", 3, 4);
        s.due(needed, "ask", 0, needed - 1).due(299, "by", 3, 5);
    }

    private void byIsAsked() {
        Sentence s = sentence("by: what NONE, 0 to 3, 4, 5; -5 another what, no such RIDER").plainRiders(3);
        s.due(-5, "by", 0, -2).due(-5, "by", 0, 6).due(-5, "by", 0, 3).due(-5, "by", 0, Integer.MIN_VALUE)
            .due(-5, "by", 0, Integer.MAX_VALUE).due(5, "status", 15);
        s.due(0, "by", 0, 2).due(3, "rider", 0, 0).due(0, "by", 0, 3).due(-5, "by", 0, 6);
        s = sentence("by: a RULE (0 to 3)").plainRiders(1);
        s.due(-6, "by", -1, -1).due(-6, "by", 4, -1).due(-6, "by", 4, 0).due(-6, "by", Integer.MAX_VALUE, 4)
            .due(-6, "by", Integer.MIN_VALUE, 5).due(5, "status", 16).due(60, "by", 0, 4);
        s.call("ask", 0, 9);
        s.due(0, "by", 3, 4).due(1, "by", 3, -1);
        s = sentence("by: -5 ahead of -6").plainRiders(1);
        s.due(-5, "by", 4, 1).due(-5, "by", -1, 6).due(-5, "by", -1, -2).due(0, "status", 16);
    }

    private void runsMore() {
        Sentence s = sentence("BY a RULE: RUNS more in all, of a RIDER").plainRiders(2);
        s.call("move", 301);
        s.call("move", 101);
        s.call("move", 301);
        s.call("ask", 0, 2);
        s.due(2, "status", 8).due(2, "by", 0, -1).due(1, "by", 0, 0).due(1, "by", 0, 1);
        s.call("ask", 0, 0);
        for (int rule = 0; rule < 4; rule++) {
            s.due(0, "by", rule, -1).due(0, "by", rule, 0).due(0, "by", rule, 1).due(0, "by", rule, 5);
        }
    }

    private void fair() {
        Sentence s = sentence("fair: -5 no RIDERS; -6");
        s.due(-5, "fair", 0).due(-5, "fair", 3).due(-5, "fair", 4).due(-5, "fair", -1).due(0, "status", 16);
        s.plainRiders(1).due(-6, "fair", -1).due(-6, "fair", 4).due(-6, "fair", Integer.MAX_VALUE)
            .due(-6, "fair", Integer.MIN_VALUE).due(4, "status", 16).due(4, "status", 15);
        s.due(0, "fair", 0).due(0, "fair", 3);
        s = sentence("FAIR is by all RUNS").plainRiders(4);
        s.call("sledges", 0, 3);
        for (int r : new int[] {3, 3, 1}) {
            s.call("tell", r, 0, 1);
            s.call("move", 10 * r);
        }
        s.call("ask", 0, 0);
        for (int rule = 0; rule < 4; rule++) {
            s.due(2, "fair", rule);
        }
        s = sentence("the greatest RUNS less the least, of all then: none but those there are").plainRiders(1);
        s.call("image");
        s.plainRiders(1);
        s.call("tell", 1, 0, 1);
        s.call("sledges", 0, 1);
        s.call("move", 10);
        s.call("ask", 0, 0);
        s.due(1, "fair", 1).due(1, "restore").due(60, "ask", 0, 0).due(0, "fair", 1);
    }

    private void best() {
        Sentence s = sentence("best: -5 no RIDERS, another what");
        s.due(-5, "best", 0).due(-5, "best", 1).due(-5, "best", 2);
        s.plainRiders(1).due(-5, "best", -1).due(-5, "best", 2).due(-5, "best", Integer.MAX_VALUE)
            .due(-5, "best", Integer.MIN_VALUE).due(7, "status", 15).due(1, "best", 0).due(0, "best", 1);
    }

    private void bestOfSeveral() {
        Sentence s = sentence("BEST RULE: of several the first").plainRiders(2);
        s.call("ask", 0, 0);
        s.due(0, "best", 0).due(0, "best", 1);
        // by TOGETHER 2 and by STRONGEST 2
        s.call("ask", 0, 2);
        s.call("sledges", 0, 1);
        s.call("tell", 0, 0, 1);
        s.call("tell", 1, 0, 1);
        s.due(2, "by", 0, -1).due(0, "by", 1, -1).due(2, "by", 3, -1).due(0, "best", 0).due(0, "best", 1);
        // two at the TOP who are not 0 and 1: STRONGEST alone brings both DOWN
        s = sentence("BEST RULE: with most RUNS more in all").plainRiders(3);
        s.call("ask", 0, 3);
        s.call("sledges", 0, 1);
        s.call("tell", 1, 0, 1);
        s.call("tell", 2, 0, 1);
        s.due(0, "by", 0, -1).due(1, "by", 1, -1).due(1, "by", 2, -1).due(2, "by", 3, -1).due(3, "best", 0);
        s.due(0, "fair", 0).due(0, "best", 1);
        // RIDER 1 is TIRED: by RESTED 0 gets the RUN that he lacks, by TURNS too: the first of both
        s = sentence("FAIREST: with the least FAIR; of several the first").plainRiders(2);
        s.call("sledges", 0, 2);
        s.call("tell", 1, 0, 1);
        s.call("move", 10);
        s.call("tell", 0, 0, 1);
        s.call("tell", 1, 1, 50);
        s.call("ask", 0, 3);
        s.due(1, "fair", 0).due(0, "fair", 1).due(0, "fair", 2).due(1, "best", 1).due(1, "best", 0);
    }

    private void fits() {
        Sentence s = sentence("fits: -5 fewer elements than RIDERS").plainRiders(3);
        s.call("ask", 0, 0);
        s.row(0).row(1, 0, 0).row(2, 0, 0, 0).row(3, 0, 0, 0, 9);
        s.due(-5, "fits", 0).due(-5, "fits", 1).due(15, "fits", 2).due(15, "fits", 3).due(2, "status", 15);
        s = sentence("fits: -5 fewer elements than RIDERS: none at all of nobody");
        s.row(0).due(15, "fits", 0).plainRiders(1).due(-5, "fits", 0);
        s = sentence("fits: -1; -2; -3").plainRiders(1);
        s.call("show", 1, 0);
        s.due(-1, "fits", -1).due(-1, "fits", 8).due(-2, "fits", 1).due(-3, "fits", 0).due(-3, "fits", 7);
        s = sentence("FITS of a ROW of RUNS more, one for each RIDER: by which it would be so").plainRiders(2);
        s.call("sledges", 0, 1);
        s.call("tell", 0, 0, 1);
        s.call("tell", 1, 0, 1);
        s.call("ask", 0, 2);
        s.row(0, 1, 1).row(1, 0, 0).row(2, 1, 0).row(3, 0, 1).row(4, -1, 1);
        s.due(9, "fits", 0).due(6, "fits", 1).due(0, "fits", 2).due(0, "fits", 3).due(0, "fits", 4);
        s.longs(5, 1, 1).due(9, "fits", 5).longs(6, 0, 0).due(6, "fits", 6);
    }

    private void road() {
        Sentence s = sentence("ROAD of n stones (1 to 500), a horse at w minutes a stone (1 to 20)").riders(0, 9, 0, 9);
        s.due(-6, "road", 0, 1, 0, 5, 0).due(-6, "road", 0, 1, 501, 5, 0).due(-6, "road", 0, 1, -1, 5, 1);
        s.due(-6, "road", 0, 1, 5, 0, 0).due(-6, "road", 0, 1, 5, 21, 0).due(-6, "road", 0, 1, 5, -1, 1);
        s.due(-6, "road", 0, 1, Integer.MAX_VALUE, 20, 0).due(-6, "road", 0, 1, 500, Integer.MIN_VALUE, 0);
        s.due(8, "status", 16);
        s.due(0, "road", 0, 1, 1, 1, 0).due(19, "road", 0, 1, 1, 1, 1);
        s.due(0, "road", 0, 1, 1, 20, 0).due(20, "road", 0, 1, 1, 20, 1);
        s.due(250, "road", 0, 1, 500, 1, 0).due(250 + 250 * 19, "road", 0, 1, 500, 1, 1);
        s.due(0, "road", 0, 1, 500, 20, 0).due(10000, "road", 0, 1, 500, 20, 1);
        s = sentence("road: -6 also the same RIDER").plainRiders(4);
        for (int r = 0; r < 4; r++) {
            s.due(-6, "road", r, r, 5, 5, 0);
        }
        s.due(1, "road", 0, 3, 2, 5, 0).due(1, "road", 3, 0, 2, 5, 0);
        s = sentence("road: -1; -5 another what; -6").plainRiders(2);
        s.due(-1, "road", 2, 0, 5, 5, 0).due(-1, "road", 0, 2, 5, 5, 0).due(-1, "road", -1, 0, 5, 5, 0)
            .due(-1, "road", 0, -1, 5, 5, 0).due(-1, "road", 2, 2, 0, 0, 2);
        s.due(-5, "road", 0, 1, 5, 5, -1).due(-5, "road", 0, 1, 5, 5, 2).due(-5, "road", 0, 0, 0, 0, 2);
    }

    private void roadTies() {
        Sentence s = sentence("the first rides to a stone k (0 to n)").riders(0, 9, 0, 0);
        // 0 walks a stone in 19, 1 in 10 minutes: who walks slower rides the one stone there is
        s.due(1, "road", 0, 1, 1, 1, 0).due(10, "road", 0, 1, 1, 1, 1);
        s.due(0, "road", 1, 0, 1, 1, 0).due(10, "road", 1, 0, 1, 1, 1);
        s = sentence("waiting for the horse, if it isn't there yet").plainRiders(2);
        s.due(0, "road", 0, 1, 2, 20, 0).due(40, "road", 0, 1, 2, 20, 1);
        s.due(0, "road", 0, 1, 2, 11, 0).due(22, "road", 0, 1, 2, 11, 1);
        s = sentence("of several the least").plainRiders(2);
        s.due(0, "road", 0, 1, 9, 10, 0).due(90, "road", 0, 1, 9, 10, 1);
        // k 1 and k 2: one walks two stones, the other one
        s.due(1, "road", 0, 1, 3, 1, 0).due(21, "road", 0, 1, 3, 1, 1);
        s = sentence("each (10 plus a) minutes a stone, however TIRED").riders(0, 3, 6, 3);
        s.call("tell", 0, 1, 99);
        s.due(1, "road", 0, 1, 2, 1, 0).due(14, "road", 0, 1, 2, 1, 1);
    }

    private void pennies() {
        Sentence s = sentence("pennies: n 0 to 9; -5 no RIDERS; -6");
        s.due(-5, "pennies", 0).due(-5, "pennies", 10).due(-5, "pennies", -1);
        s.plainRiders(1).due(-6, "pennies", -1).due(-6, "pennies", 10).due(-6, "pennies", Integer.MAX_VALUE)
            .due(-6, "pennies", Integer.MIN_VALUE).due(0, "pennies", 0).due(3, "status", 15).due(4, "status", 16);
        // a LIFT 2 and DOWN 3 minutes each: nine times in 45 minutes
        s = sentence("with how few of so many PENNIES (0 to 9) most RUNS come").plainRiders(1);
        s.call("ask", 0, 45);
        for (int n : new int[] {9, 8, 1, 0}) {
            s.call("ask", 0, 5 * n);
            s.due(n, "pennies", n).due(n, "pennies", 9);
        }
        s.call("ask", 0, 43);
        // five LIFTS leave eighteen minutes: twice a PULL 6 and DOWN 3, seven RUNS as by seven LIFTS
        s.due(8, "pennies", 9).due(8, "pennies", 8).due(5, "pennies", 7);
        // seven LIFTS leave nine minutes: a PULL 6 and DOWN 3 for the eighth
        s.call("ask", 0, 44);
        s.due(7, "pennies", 9).due(7, "pennies", 7).due(5, "pennies", 6);
    }

    private void penniesAndLifts() {
        Sentence s = sentence("LEAST PENNIES are in place of those there are").plainRiders(1);
        s.call("ask", 0, 5);
        s.call("ask", 1, 50);
        s.due(1, "pennies", 1).due(0, "pennies", 0).due(50, "status", 5);
        s = sentence("a LIFT that MAY be counts also where no PULL MAY be").plainRiders(1);
        s.call("ask", 0, 5);
        s.due(0, "by", 1, -1).due(1, "pennies", 9);
        s = sentence("as long as there are any; In LEAST PENNIES a PULL stays a PULL where its LIFT MAY not be")
            .plainRiders(1);
        // LIFT 2, DOWN 3, PULL 6, DOWN 3: two RUNS, without a PENNY one
        s.call("ask", 0, 14);
        s.due(1, "pennies", 1).due(1, "pennies", 9);
        s = sentence("In LEAST PENNIES a PULL stays a PULL where its LIFT MAY not be: in the latest minute")
            .riders(TOUGH, 0, 1, 0);
        s.call("ask", 2, 1);
        s.call("ask", 3, 1);
        s.call("sledges", 1, 1);
        s.call("tell", 1, 0, 1);
        s.call("ask", 0, 1);
        s.due(0, "by", 1, -1).due(0, "pennies", 9);
        s = sentence("with how few PENNIES most RUNS come: none by any").plainRiders(1);
        s.call("ask", 0, 4);
        s.due(0, "pennies", 9);
        s.call("ask", 0, 0);
        s.due(0, "pennies", 9).due(0, "status", 4);
    }

    private void goes() {
        Sentence s = sentence("goes: n MOVES (1 to 60) at most; -6").plainRiders(2);
        s.due(-6, "goes", 0, 0).due(-6, "goes", 0, 61).due(-6, "goes", 0, -1).due(-6, "goes", -1, 1)
            .due(-6, "goes", 4, 1).due(-6, "goes", 0, Integer.MAX_VALUE).due(-6, "goes", Integer.MIN_VALUE, 1)
            .due(60, "status", 4).due(7, "status", 16);
        s.due(1, "goes", 0, 1).due(54, "status", 4).due(3, "status", 1);
        for (int rule = 1; rule <= 2; rule++) {
            s = minuteByMinute("goes: n MOVES (1 to 60) at most: how many there were");
            s.call("ask", 0, 999);
            s.due(60, "goes", rule, 60).due(939, "status", 4).due(59, "goes", rule, 59).due(880, "status", 4);
            s.call("ask", 0, 60);
            s.due(60, "goes", rule, 60).due(0, "status", 4).due(0, "goes", rule, 60);
            s.call("ask", 0, 7);
            s.due(7, "goes", rule, 60).due(0, "goes", rule, 1).due(0, "status", 4);
        }
        s = sentence("goes: how many there were: nobody there");
        for (int rule = 0; rule < 4; rule++) {
            s.due(0, "goes", rule, 60);
        }
        s.due(60, "status", 4).due(0, "status", 16);
    }

    private void goesBeginsWithRiderZero() {
        Sentence s = minuteByMinute("goes() begins with RIDER 0");
        s.due(1, "goes", 1, 1).due(14, "status", 1).due(1, "goes", 1, 1).due(15, "status", 1);
        s.due(1, "goes", 1, 1).due(2, "riderOf", 0, 4).due(0, "riderOf", 1, 4);
        s.due(3, "goes", 1, 3).due(2, "riderOf", 0, 4).due(1, "riderOf", 1, 4).due(15, "status", 1);
        s.due(1, "goes", 1, 1).due(3, "riderOf", 0, 4).due(0, "riderOf", 2, 4);
    }
}
