/** Promises 23 to 25 and 32 to 34: told afternoons, winters by draws, days. */
final class AfternoonTests {
    private AfternoonTests() {
    }

    static void run(Tally t) {
        promise23(t);
        promise23Refusals(t);
        promise24(t);
        promise24Refusals(t);
        promise25(t);
        promise25Refusals(t);
        promise32(t);
        promise32Refusals(t);
        promise33(t);
        promise34(t);
    }

    /** Two RIDERS, one SLEDGE; SHELF 0 tells PULL 6, DOWN 3, REST 5, PULL 6, LIFT (never), REST. */
    private static OneSledgeForTwo told() {
        OneSledgeForTwo x = Texts.riders(0, 1, 2, 4);
        Texts.put(x, 0, 200, 0, 700, 301, 500, 700);
        return x;
    }

    private static void promise23(Tally t) {
        OneSledgeForTwo x = told();
        t.due("23: judge(0, 4)", x.judge(0, 4), -1);
        t.due("23: judge(0, 0)", x.judge(0, 0), -1);
        t.due("23: judge(0, 5)", x.judge(0, 5), 4);
        t.due("23: judge(0, 6)", x.judge(0, 6), 4);
        x.ask(0, 13);
        t.due("23: dark", x.judge(0, 4), 2);
        t.due("23: nothing changed", x.status(8), 0);
        x.ask(0, 60);
        x.set(0, 0, 1);
        t.due("23: a MOVE that is none", x.judge(0, 4), 0);
        x.set(0, 0, -1);
        t.due("23: below", x.judge(0, 1), 0);
        x.row(1, 3, 2);
        x.set(1, 0, 200 + (7L << 32));
        x.set(1, 1, 1L << 32);
        t.due("23: longs by their lowest bits", x.judge(1, 2), -1);
        x.row(2, 0, 1);
        x.set(2, 0, 200);
        t.due("23: bytes have a sign", x.judge(2, 1), 0);
        t.due("23: nothing refused", x.status(16) + x.status(11) + x.status(15), 0);
        x.row(3, 2, 60);
        x.sledges(0, 3);
        x.tell(0, 0, 1);
        t.due("23: sixty", x.judge(3, 60), 1);
    }

    private static void promise23Refusals(Tally t) {
        OneSledgeForTwo x = told();
        x.show(1, 0);
        x.row(3, 2, 100);
        t.due("23: no SHELF", x.judge(8, -1), -11);
        t.due("23: no SHELF below", x.judge(-1, 1), -11);
        t.due("23: a RIDER", x.judge(1, -1), -12);
        t.due("23: NOTHING", x.judge(2, -1), -13);
        t.due("23: n below", x.judge(0, -1), -14);
        t.due("23: fewer", x.judge(0, 7), -15);
        t.due("23: fewer and above 60", x.judge(0, 61), -15);
        t.due("23: above 60", x.judge(3, 61), -16);
        t.due("23: greatest", x.judge(3, Integer.MAX_VALUE), -15);
        int[] due = {2, 1, 1, 1, 3, 1, 0};
        for (int i = 0; i < due.length; i++) {
            t.due("23: counted as " + (-1 - i), x.status(11 + i), due[i]);
        }
    }

    private static void promise24(Tally t) {
        OneSledgeForTwo x = told();
        x.ask(1, 7);
        int[][] due = {{0, 60, 0, 7}, {0, 54, 6, 7}, {1, 51, 9, 7}, {1, 46, 9, 7}, {1, 41, 9, 7}};
        for (int n = 0; n <= 4; n++) {
            for (int what = 0; what < 4; what++) {
                t.due("24: behind(0, " + n + ", " + what + ")", x.behind(0, n, what), due[n][what]);
            }
        }
        x.set(0, 3, 500);
        t.due("24: a PENNY less", x.behind(0, 4, 3), 6);
        x.move(200);
        x.move(0);
        Texts.put(x, 1, 700);
        t.due("24: RUNS of all", x.behind(1, 1, 0), 1);
        t.due("24: WAITED of all", x.behind(1, 1, 2), 9);
        t.due("24: nothing changed", x.status(4), 51);
    }

    private static void promise24Refusals(Tally t) {
        OneSledgeForTwo x = told();
        x.show(1, 0);
        x.row(3, 2, 100);
        t.due("24: no SHELF", x.behind(8, -1, 9), -1);
        t.due("24: a RIDER", x.behind(1, -1, 9), -2);
        t.due("24: NOTHING", x.behind(2, -1, 9), -3);
        t.due("24: n below", x.behind(0, -1, 9), -4);
        t.due("24: fewer", x.behind(0, 7, 0), -5);
        t.due("24: another what", x.behind(0, 4, 4), -5);
        t.due("24: another what below", x.behind(0, 4, -1), -5);
        t.due("24: another what of a WRONG one", x.behind(0, 6, 4), -5);
        t.due("24: another what above 60", x.behind(3, 61, 4), -5);
        t.due("24: above 60", x.behind(3, 61, 0), -6);
        t.due("24: WRONG", x.behind(0, 5, 0), -6);
        int[] due = {1, 1, 1, 1, 5, 2, 0};
        for (int i = 0; i < due.length; i++) {
            t.due("24: counted " + (-1 - i), x.status(11 + i), due[i]);
        }
    }

    private static void promise25(Tally t) {
        OneSledgeForTwo x = told();
        t.due("25: done(0, 0)", x.done(0, 0), 60);
        t.due("25: done(0, 4)", x.done(0, 4), 41);
        t.due("25: MINUTES", x.status(4), 41);
        t.due("25: RUNS", x.riderOf(0, 4), 1);
        // 9 by the PULL, 5 less at the REST, 4 by the PULL by two
        t.due("25: TIRED", x.riderOf(0, 3), 9 - 5 + 4);
        t.due("25: TIRED of a STRONG one", x.riderOf(1, 3), 2);
        t.due("25: WAITED", x.riderOf(1, 5), 9);
        t.due("25: TOP", x.status(1), 3);
        t.due("25: SLEDGES", x.status(3), 1);
        OneSledgeForTwo y = told();
        t.due("25: WRONG", y.done(0, 5), -6);
        t.due("25: nothing comes to pass", y.status(4), 60);
        t.due("25: nobody moved", y.status(1), 0);
    }

    private static void promise25Refusals(Tally t) {
        OneSledgeForTwo x = told();
        x.show(1, 0);
        x.row(3, 2, 100);
        t.due("25: no SHELF", x.done(8, -1), -1);
        t.due("25: no SHELF below", x.done(-1, 1), -1);
        t.due("25: a RIDER", x.done(1, -1), -2);
        t.due("25: NOTHING", x.done(2, -1), -3);
        t.due("25: n below", x.done(0, -1), -4);
        t.due("25: fewer", x.done(0, 7), -5);
        t.due("25: above 60", x.done(3, 61), -6);
        t.due("25: fewer and above 60", x.done(0, 61), -5);
    }

    private static int drawn(int[] seed, int n) {
        seed[0] = seed[0] * 1103515245 + 12345;
        return (int) ((seed[0] & 0xffffffffL) / 65536 % n);
    }

    private static void promise32(Tally t) {
        for (int first = -3; first < 4; first++) {
            OneSledgeForTwo x = Texts.riders(0, 1, 2, 4, 6, 0);
            OneSledgeForTwo y = Texts.riders(0, 1, 2, 4, 6, 0);
            int[] seed = {first * 7654321};
            x.seed(seed[0]);
            x.ask(1, 5);
            y.ask(1, 5);
            int before = 0;
            for (int n = 1; n <= 9; n += 4) {
                int runs = x.winter(n);
                for (int i = 0; i < n && y.next(-1) > 0; i++) {
                    y.move(y.next(drawn(seed, y.next(-1))));
                }
                t.due("32: RUNS by them", runs, y.status(8) - before);
                before = y.status(8);
                t.due("32: SEED", x.status(9), seed[0]);
                for (int what = 0; what < 9; what++) {
                    t.due("32: status(" + what + ")", x.status(what), y.status(what));
                }
            }
        }
        OneSledgeForTwo z = new OneSledgeForTwo();
        z.ask(0, 12);
        t.due("32: RESTS alone", z.winter(60), 0);
        t.due("32: two of them", z.status(4), 2);
        int[] seed = {1};
        drawn(seed, 1);
        drawn(seed, 1);
        t.due("32: a DRAW for each, none for none", z.status(9), seed[0]);
    }

    private static void promise32Refusals(Tally t) {
        OneSledgeForTwo x = Texts.riders(0, 0);
        t.due("32: winter(0)", x.winter(0), -6);
        t.due("32: winter(-1)", x.winter(-1), -6);
        t.due("32: winter(61)", x.winter(61), -6);
        t.due("32: no DRAW", x.status(9), 1);
        t.due("32: counted", x.status(16), 3);
    }

    private static void promise33(Tally t) {
        OneSledgeForTwo x = Texts.riders(0, 1, 2, 4);
        x.sledges(1, 2);
        x.tell(0, 0, 1);
        x.tell(1, 0, 1);
        x.ask(1, 9);
        x.ask(2, 8);
        x.ask(3, 7);
        x.seed(5);
        x.move(0);
        x.move(200);
        x.move(101);
        x.tell(1, 0, 1);
        t.due("33: day(-1)", x.day(-1), -6);
        t.due("33: day(1000)", x.day(1000), -6);
        t.due("33: nothing changed", x.status(8), 3);
        t.due("33: RUNS of all ahead", x.day(999), 3);
        int[] due = {2, 0, 3, 0, 999, 9, 8, 7, 0, 5};
        for (int what = 0; what < due.length; what++) {
            t.due("33: status(" + what + ")", x.status(what), due[what]);
        }
        int[][] riders = {{0, 1, 0, 0, 0, 0}, {2, 4, 0, 0, 0, 0}};
        for (int r = 0; r < 2; r++) {
            for (int what = 0; what < 6; what++) {
                t.due("33: riderOf(" + r + ", " + what + ")", x.riderOf(r, what), riders[r][what]);
            }
        }
        t.due("33: day(0)", x.day(0), 0);
        t.due("33: dark", x.status(4), 0);
    }

    private static void promise34(Tally t) {
        OneSledgeForTwo x = new OneSledgeForTwo();
        t.due("34: seed(7)", x.seed(7), 1);
        t.due("34: seed(MIN)", x.seed(Integer.MIN_VALUE), 7);
        t.due("34: seed(0)", x.seed(0), Integer.MIN_VALUE);
        t.due("34: it is so", x.status(9), 0);
    }
}
