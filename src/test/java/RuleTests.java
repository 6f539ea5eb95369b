/** Promises 20 to 22, 26 to 28 and 31: RULES and what comes of them, the ROAD. */
final class RuleTests {
    private RuleTests() {
    }

    static void run(Tally t) {
        together(t);
        turns(t);
        rested(t);
        strongest(t);
        longAfternoon(t);
        promise20Refusals(t);
        promise21(t);
        promise22(t);
        promise26(t);
        promise26Refusals(t);
        promise27(t);
        promise27Refusals(t);
        promise28(t);
        promise31(t);
    }

    /** What by() tells: RUNS in all, of each RIDER, minutes, MOVES. */
    private static void by(Tally t, OneSledgeForTwo x, int rule, int[] due, int... runs) {
        String by = "20: by(" + rule + ", ";
        t.due(by + "NONE)", x.by(rule, -1), due[0]);
        t.due(by + "4)", x.by(rule, 4), due[1]);
        t.due(by + "5)", x.by(rule, 5), due[2]);
        for (int r = 0; r < runs.length; r++) {
            t.due(by + r + ")", x.by(rule, r), runs[r]);
        }
    }

    /** MOVES that goes() makes, told by how all stands behind them and behind the same made one by one. */
    private static void goesBy(Tally t, OneSledgeForTwo x, int rule, int n, int... due) {
        x.image();
        int made = x.goes(rule, n);
        t.due("31: goes(" + rule + ", " + n + ")", made, due.length);
        int[] behind = standing(x);
        x.restore();
        for (int move : due) {
            t.holds("31: " + move + " MAY be by RULE " + rule, x.move(move) >= 0);
        }
        int[] oneByOne = standing(x);
        for (int i = 0; i < oneByOne.length; i++) {
            t.due("31: standing " + i + " by RULE " + rule, behind[i], oneByOne[i]);
        }
        x.restore();
    }

    /** Where all are, SLEDGES, MINUTES; of each RIDER TIRED, RUNS, WAITED. */
    private static int[] standing(OneSledgeForTwo x) {
        int riders = x.status(0);
        int[] told = new int[4 + 3 * riders];
        for (int i = 0; i < 4; i++) {
            told[i] = x.status(1 + i);
        }
        for (int i = 0; i < 3 * riders; i++) {
            told[4 + i] = x.riderOf(i / 3, 3 + i % 3);
        }
        return told;
    }

    private static void together(Tally t) {
        OneSledgeForTwo x = Texts.riders(0, 0, 0, 0, 0, 0);
        x.tell(0, 0, 1);
        x.sledges(1, 1);
        by(t, x, 0, new int[] {0, 60, 0}, 0, 0, 0);
        x.tell(1, 0, 1);
        x.ask(0, 11);
        // DOWN 2, PULL 6, DOWN 2
        by(t, x, 0, new int[] {4, 1, 3}, 2, 2, 0);
        goesBy(t, x, 0, 60, 101, 301, 101);
        goesBy(t, x, 0, 2, 101, 301);
        x.sledges(0, 1);
        x.ask(0, 10);
        by(t, x, 0, new int[] {4, 0, 3}, 2, 2, 0);
        t.due("20: nothing is changed", x.status(4), 10);
        OneSledgeForTwo y = Texts.riders(0, 0);
        by(t, y, 0, new int[] {0, 60, 0}, 0);
    }

    private static void turns(Tally t) {
        OneSledgeForTwo x = Texts.riders(0, 0, 4, 0, 2, 0);
        x.tell(1, 0, 1);
        x.sledges(2, 1);
        x.ask(0, 40);
        // 0: PULL 6; 1: DOWN 4, PULL 8; 2: PULL 4; 0: DOWN 3, PULL 6; 1: DOWN 4; 2: DOWN 3
        goesBy(t, x, 1, 60, 200, 10, 210, 220, 0, 200, 10, 20);
        by(t, x, 1, new int[] {4, 40 - 6 - 4 - 8 - 4 - 3 - 6 - 4 - 3, 8}, 1, 2, 1);
        goesBy(t, x, 1, 3, 200, 10, 210);
        x.goes(1, 2);
        // it begins with RIDER 0 again, though RIDER 1 had the latest MOVE
        goesBy(t, x, 1, 3, 0, 200, 210);
        OneSledgeForTwo y = Texts.riders(0, 0, 0, 0);
        y.tell(0, 0, 1);
        // RIDER 0 has no SLEDGE where he is and is left out, till RIDER 1 brought one up
        goesBy(t, y, 1, 4, 210, 0, 200, 10);
        OneSledgeForTwo z = Texts.riders(0, 0, 0, 0);
        z.tell(0, 0, 1);
        z.sledges(0, 0);
        goesBy(t, z, 1, 60);
        by(t, z, 1, new int[] {0, 60, 0}, 0, 0);
    }

    private static void rested(Tally t) {
        OneSledgeForTwo x = Texts.riders(0, 0, 0, 0, 0, 0);
        x.sledges(1, 1);
        x.tell(0, 0, 1);
        x.tell(2, 0, 1);
        x.tell(0, 1, 30);
        x.tell(2, 1, 29);
        x.tell(1, 1, 50);
        // DOWN by 2, then of those at the FOOT the least TIRED
        goesBy(t, x, 2, 2, 20, 220);
        x.tell(2, 1, 30);
        goesBy(t, x, 2, 1, 0);
        x.tell(0, 1, 31);
        goesBy(t, x, 2, 1, 20);
        x.sledges(2, 0);
        x.tell(0, 0, 0);
        x.tell(2, 0, 0);
        x.tell(0, 1, 50);
        x.tell(2, 1, 50);
        goesBy(t, x, 2, 1, 200);
        x.tell(2, 1, 49);
        goesBy(t, x, 2, 2, 220, 20);
        // least TIRED of those who have the minutes for it
        x.ask(0, 10);
        x.tell(2, 1, 51);
        x.tell(1, 1, 47);
        goesBy(t, x, 2, 2, 210);
        x.ask(0, 0);
        by(t, x, 2, new int[] {0, 0, 0}, 0, 0, 0);
    }

    private static void strongest(Tally t) {
        OneSledgeForTwo x = Texts.riders(6, 0, 0, 0, 5, 0, 2, 0);
        x.sledges(1, 0);
        // PULL of the fewest minutes, WALK up of the first, DOWN by two
        goesBy(t, x, 3, 4, 220, 400, 102, 220);
        x.tell(2, 0, 1);
        x.tell(3, 0, 1);
        x.sledges(1, 1);
        goesBy(t, x, 3, 1, 123);
        x.tell(1, 0, 1);
        goesBy(t, x, 3, 1, 112);
        x.tell(2, 1, 99);
        x.tell(1, 0, 0);
        x.tell(2, 0, 0);
        x.tell(3, 1, 0);
        goesBy(t, x, 3, 1, 210);
        OneSledgeForTwo y = Texts.riders(0, 0, 0, 0);
        y.sledges(0, 1);
        y.tell(1, 0, 1);
        y.ask(0, 4);
        goesBy(t, y, 3, 1, 400);
        y.ask(0, 3);
        goesBy(t, y, 3, 60, 10);
        by(t, y, 3, new int[] {1, 0, 1}, 0, 1);
        y.ask(0, 60);
        y.tell(0, 0, 1);
        y.tell(1, 0, 0);
        y.sledges(1, 0);
        // of several of as many minutes the first
        y.tell(0, 0, 0);
        goesBy(t, y, 3, 3, 200, 410, 101);
    }

    private static void longAfternoon(Tally t) {
        OneSledgeForTwo x = Texts.riders(5, 0, 5, 0, 5, 0);
        x.ask(2, 1);
        x.ask(3, 1);
        x.ask(0, 999);
        x.sledges(3, 0);
        // three PULLS, then DOWN and PULL, each behind the other
        t.due("20: 300 MOVES at most, TURNS", x.by(1, 5), 300);
        t.due("20: their RUNS", x.by(1, -1), 149);
        t.holds("20: they leave minutes", x.by(1, 4) > 100);
        t.due("20: 300 MOVES at most, RESTED", x.by(2, 5), 300);
        t.due("26: FITS of so many", fitsOf(x, x.by(1, 0), x.by(1, 1), x.by(1, 2)) >> 1 & 1, 1);
        t.due("20: nobody has none", new OneSledgeForTwo().by(3, 5), 0);
    }

    private static int fitsOf(OneSledgeForTwo x, int... runs) {
        Texts.put(x, 0, runs);
        return x.fits(0);
    }

    private static void promise20Refusals(Tally t) {
        OneSledgeForTwo x = Texts.riders(0, 0, 0, 0);
        t.due("20: by(4, NONE)", x.by(4, -1), -6);
        t.due("20: by(-1, 0)", x.by(-1, 0), -6);
        t.due("20: by(4, 2)", x.by(4, 2), -5);
        t.due("20: by(0, 2)", x.by(0, 2), -5);
        t.due("20: by(0, 6)", x.by(0, 6), -5);
        t.due("20: by(0, -2)", x.by(0, -2), -5);
        t.due("20: by(MIN, MAX)", x.by(Integer.MIN_VALUE, Integer.MAX_VALUE), -5);
        t.due("20: -5 counted", x.status(15), 5);
        t.due("20: -6 counted", x.status(16), 2);
    }

    private static void promise21(Tally t) {
        OneSledgeForTwo x = new OneSledgeForTwo();
        t.due("21: nobody", x.fair(0), -5);
        t.due("21: nobody's no RULE", x.fair(9), -5);
        x = Texts.riders(0, 0, 0, 0, 0, 0);
        t.due("21: fair(4)", x.fair(4), -6);
        t.due("21: fair(-1)", x.fair(-1), -6);
        x.sledges(0, 1);
        x.tell(2, 0, 1);
        x.move(20);
        x.ask(0, 9);
        // 0 and 1 PULL by two, 6 minutes, and go DOWN by two, 2 minutes: each has one RUN
        t.due("21: by all RUNS", x.fair(0), 0);
        t.due("21: nothing changed", x.status(8), 1);
        // RIDER 0 alone: 6 and 3 minutes
        t.due("21: TURNS", x.fair(1), 1);
        x.ask(0, 0);
        t.due("21: as it is", x.fair(2), 1);
        t.due("21: one alone", Texts.riders(0, 0).fair(3), 0);
    }

    private static void promise22(Tally t) {
        OneSledgeForTwo x = new OneSledgeForTwo();
        t.due("22: nobody", x.best(0), -5);
        x = Texts.riders(0, 0, 0, 0, 6, 0);
        t.due("22: another what", x.best(2), -5);
        t.due("22: another what below", x.best(-1), -5);
        int most = 0;
        int least = 0;
        for (int rule = 1; rule < 4; rule++) {
            most = x.by(rule, -1) > x.by(most, -1) ? rule : most;
            least = x.fair(rule) < x.fair(least) ? rule : least;
        }
        t.due("22: BEST RULE", x.best(0), most);
        t.due("22: FAIREST", x.best(1), least);
        OneSledgeForTwo one = Texts.riders(0, 0);
        t.due("22: one alone has the first by which he runs", one.best(0), 1);
        t.due("22: all as fair: the first", one.best(1), 0);
        OneSledgeForTwo y = Texts.riders(2, 0, 0, 0);
        y.tell(0, 0, 1);
        y.tell(1, 0, 1);
        y.sledges(0, 1);
        y.ask(0, 3);
        y.ask(3, 3);
        t.due("22: TOGETHER brings two", y.best(0), 0);
        y.tell(1, 0, 0);
        t.due("22: TURNS brings one, the first of several", y.best(0), 1);
        t.due("22: none by TOGETHER is fairest", y.best(1), 0);
        y.ask(0, 0);
        t.due("22: none at all", y.best(0), 0);
        OneSledgeForTwo z = Texts.riders(0, 0, 0, 0);
        z.tell(0, 0, 1);
        z.sledges(0, 1);
        z.move(0);
        z.day(60);
        z.tell(1, 0, 1);
        z.sledges(0, 1);
        t.due("22: RUNS of before count no more", z.best(1), 0);
    }

    private static void promise26(Tally t) {
        OneSledgeForTwo x = Texts.riders(0, 0, 0, 0);
        x.sledges(0, 1);
        x.tell(0, 0, 1);
        x.tell(1, 0, 1);
        x.ask(0, 3);
        // 0: both; 1, 2: RIDER 0 alone; 3: both
        Texts.put(x, 0, 1, 1, 77);
        t.due("26: both", x.fits(0), 1 + 8);
        Texts.put(x, 1, 1, 0);
        t.due("26: RIDER 0 alone", x.fits(1), 2 + 4);
        Texts.put(x, 2, 0, 1);
        t.due("26: none so", x.fits(2), 0);
        x.row(3, 3, 2);
        x.set(3, 0, 1 + (1L << 32));
        x.set(3, 1, 1L << 33);
        t.due("26: longs by their lowest bits", x.fits(3), 2 + 4);
        x.row(3, 0, 2);
        x.set(3, 0, 257);
        t.due("26: bytes", x.fits(3), 2 + 4);
        x.move(101);
        Texts.put(x, 4, 0, 0);
        t.due("26: RUNS more, not all", x.fits(4), 15);
        OneSledgeForTwo y = new OneSledgeForTwo();
        y.row(0, 2, 0);
        t.due("26: nobody's RUNS are so by all", y.fits(0), 15);
    }

    private static void promise26Refusals(Tally t) {
        OneSledgeForTwo x = Texts.riders(0, 0, 0, 0);
        x.row(0, 2, 1);
        x.show(1, 0);
        t.due("26: no SHELF", x.fits(8), -1);
        t.due("26: no SHELF below", x.fits(-1), -1);
        t.due("26: a RIDER", x.fits(1), -2);
        t.due("26: NOTHING", x.fits(2), -3);
        t.due("26: fewer elements", x.fits(0), -5);
        t.due("26: counted", x.status(15), 1);
    }

    /** The later of both, counted stone by stone. */
    private static int later(int firstOnFoot, int otherOnFoot, int n, int w, int k) {
        int first = 0;
        int other = 0;
        int tied = 0;
        for (int stone = 0; stone < n; stone++) {
            first += stone < k ? w : firstOnFoot;
            tied += stone < k ? w : 0;
        }
        for (int stone = 0; stone < n; stone++) {
            if (stone == k) {
                other = Math.max(other, tied);
            }
            other += stone < k ? otherOnFoot : w;
        }
        return Math.max(first, other);
    }

    private static void promise27(Tally t) {
        OneSledgeForTwo x = Texts.riders(0, 9, 6, 0, 1, 5);
        int[] stones = {1, 2, 3, 7, 30, 99, 499, 500};
        int[] minutes = {1, 3, 9, 10, 11, 15, 19, 20};
        int[] onFoot = {19, 10, 15};
        for (int n : stones) {
            for (int w : minutes) {
                int one = (n + w) % 3;
                int two = (one + 1 + n % 2) % 3;
                int tie = 0;
                for (int k = 1; k <= n; k++) {
                    if (later(onFoot[one], onFoot[two], n, w, k) < later(onFoot[one], onFoot[two], n, w, tie)) {
                        tie = k;
                    }
                }
                String road = "27: road(" + one + ", " + two + ", " + n + ", " + w + ", ";
                t.due(road + "0)", x.road(one, two, n, w, 0), tie);
                t.due(road + "1)", x.road(one, two, n, w, 1), later(onFoot[one], onFoot[two], n, w, tie));
            }
        }
        // one stone: at 0 the other rides, at 1 the first: both walkers 10 and 19 minutes
        t.due("27: he who walks slower rides", x.road(0, 1, 1, 1, 0), 1);
        t.due("27: when that is", x.road(0, 1, 1, 1, 1), 10);
        t.due("27: the least of several", x.road(1, 0, 1, 20, 0), 0);
    }

    private static void promise27Refusals(Tally t) {
        OneSledgeForTwo x = Texts.riders(0, 0, 0, 0);
        t.due("27: no RIDER", x.road(2, 0, 0, 0, 2), -1);
        t.due("27: no other", x.road(0, 2, 5, 5, 0), -1);
        t.due("27: no RIDER below", x.road(-1, 0, 5, 5, 0), -1);
        t.due("27: no other below", x.road(0, -1, 5, 5, 0), -1);
        t.due("27: another what", x.road(0, 0, 0, 0, 2), -5);
        t.due("27: another what below", x.road(0, 1, 5, 5, -1), -5);
        t.due("27: no stones", x.road(0, 1, 0, 5, 0), -6);
        t.due("27: 501 stones", x.road(0, 1, 501, 5, 0), -6);
        t.due("27: no minutes", x.road(0, 1, 5, 0, 0), -6);
        t.due("27: 21 minutes", x.road(0, 1, 5, 21, 0), -6);
        t.due("27: the same", x.road(1, 1, 5, 5, 0), -6);
        t.due("27: greatest", x.road(0, 1, Integer.MAX_VALUE, Integer.MAX_VALUE, 1), -6);
    }

    private static void promise28(Tally t) {
        OneSledgeForTwo x = new OneSledgeForTwo();
        t.due("28: nobody", x.pennies(1), -5);
        t.due("28: nobody's no number", x.pennies(10), -5);
        x = Texts.riders(0, 0);
        t.due("28: pennies(10)", x.pennies(10), -6);
        t.due("28: pennies(-1)", x.pennies(-1), -6);
        // a LIFT 2 and DOWN 3 minutes, a PULL 6, later 7
        x.ask(0, 4);
        t.due("28: none is enough", x.pennies(9), 0);
        x.ask(0, 5);
        t.due("28: a LIFT where no PULL MAY be", x.pennies(9), 1);
        t.due("28: of so many", x.pennies(0), 0);
        x.ask(0, 9);
        t.due("28: a PULL is as good", x.pennies(9), 0);
        x.ask(0, 14);
        t.due("28: one PENNY more brings one more", x.pennies(9), 1);
        x.ask(0, 15);
        t.due("28: two LIFTS bring three", x.pennies(9), 3);
        t.due("28: two of two", x.pennies(2), 1);
        x.ask(1, 50);
        x.ask(0, 4);
        t.due("28: in place of those there are", x.pennies(0), 0);
        t.due("28: they stay", x.status(5), 50);
        // a PULL of one minute where a LIFT takes two
        OneSledgeForTwo y = Texts.riders(5, 0);
        y.ask(2, 1);
        y.ask(3, 1);
        y.ask(0, 4);
        t.due("28: none, for PULLS are quicker", y.pennies(9), 0);
        y.ask(0, 2);
        t.due("28: a PULL where no LIFT MAY be in time", y.pennies(9), 0);
        // rules of RIDERS without minutes
        y.ask(0, 0);
        t.due("28: nothing comes", y.pennies(9), 0);
    }

    private static void promise31(Tally t) {
        OneSledgeForTwo x = Texts.riders(0, 0, 0, 0);
        t.due("31: no RULE", x.goes(4, 5), -6);
        t.due("31: no RULE below", x.goes(-1, 5), -6);
        t.due("31: no MOVES", x.goes(0, 0), -6);
        t.due("31: 61 MOVES", x.goes(0, 61), -6);
        t.due("31: below", x.goes(0, -5), -6);
        t.due("31: counted", x.status(16), 5);
        t.due("31: in truth", x.goes(0, 3), 3);
        t.due("31: MINUTES", x.status(4), 60 - 6 - 2 - 6);
        t.due("31: RUNS", x.status(8), 2);
        t.due("31: TOP", x.status(1), 3);
        x.ask(0, 999);
        x.ask(2, 1);
        x.ask(3, 1);
        t.due("31: 60 at most", x.goes(2, 60), 60);
        x.ask(0, 1);
        t.holds("31: till nothing MAY be", x.goes(1, 60) <= 1);
        t.due("31: SEED stays", x.status(9), 1);
        t.due("31: nobody goes", new OneSledgeForTwo().goes(1, 60), 0);
    }
}
