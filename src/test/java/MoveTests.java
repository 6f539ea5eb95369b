/** Promises 16 to 19, 29 and 30: MOVES, NEXT, AHEAD, who stands how behind them. */
final class MoveTests {
    private static final int[] SORTS_ALONE = {0, 2, 4, 5, 6};

    private MoveTests() {
    }

    static void run(Tally t) {
        promise16Down(t);
        promise16Pull(t);
        promise16Walk(t);
        promise16None(t);
        promise17(t);
        promise17Dark(t);
        promise18(t);
        promise19(t);
        promise19Ties(t);
        promise19Refusals(t);
        promise29(t);
        promise30Down(t);
        promise30Up(t);
        promise30Rest(t);
        promise30Refusals(t);
    }

    private static void promise16Down(Tally t) {
        // RIDER, HEAVY, STRONG, STEERER, SMALL, TOUGH, BABY
        int[] less = {0, 1, 0, 2, -1, 0, -1};
        for (int kind = 0; kind < 7; kind++) {
            for (int length = 1; length <= 9; length++) {
                OneSledgeForTwo x = Texts.riders(kind, 9, kind, 0, 0, 0);
                x.ask(3, length);
                x.tell(0, 1, 99);
                int alone = Math.max(1, length - less[kind]);
                String what = " of KIND " + kind + ", LONG " + length;
                t.due("16: DOWN" + what, x.takes(0), alone);
                t.due("16: DOWN by two" + what, x.takes(101), Math.max(1, alone - 1));
                t.due("16: DOWN with a RIDER" + what, x.takes(2 + 100), Math.max(1, Math.min(alone, length) - 1));
                t.due("16: WALK down" + what, x.takes(600), length + 1);
            }
        }
    }

    private static void promise16Pull(Tally t) {
        int[] less = {0, 0, 2, 0, -2, 3, 0};
        for (int kind = 0; kind < 7; kind++) {
            for (int steep = 1; steep <= 9; steep++) {
                for (int tired = 0; tired <= 99; tired += 9) {
                    OneSledgeForTwo x = Texts.riders(kind, 9, 0, 0);
                    x.ask(2, steep);
                    x.tell(0, 1, tired);
                    int plain = steep + tired / 10;
                    int alone = kind == 6 ? plain * 2 : Math.max(1, plain - less[kind]);
                    String what = " of KIND " + kind + ", STEEP " + steep + ", TIRED " + tired;
                    t.due("16: PULL" + what, x.takes(200), alone);
                    t.due("16: PULL by two" + what, x.takes(301), Math.max(1, (alone + steep) / 2));
                    t.due("16: WALK up" + what, x.takes(400), steep / 2 + tired / 10 + 1);
                }
            }
        }
    }

    private static void promise16Walk(Tally t) {
        OneSledgeForTwo x = Texts.riders(5, 0, 6, 9);
        t.due("16: LIFT", x.takes(500), 2);
        t.due("16: LIFT of another", x.takes(510), 2);
        t.due("16: REST", x.takes(700), 5);
        x.sledges(0, 0);
        x.ask(0, 0);
        x.tell(0, 0, 1);
        t.due("16: wherever all are", x.takes(200), 3);
        t.due("16: wherever all are by two", x.takes(301), 7);
    }

    private static void promise16None(Tally t) {
        OneSledgeForTwo x = Texts.riders(0, 0, 0, 0, 0, 0);
        boolean[] none = new boolean[801];
        java.util.Arrays.fill(none, true);
        for (int sort : SORTS_ALONE) {
            for (int r = 0; r < 3; r++) {
                none[100 * sort + 10 * r] = false;
            }
        }
        for (int move : new int[] {101, 102, 112, 301, 302, 312, 700}) {
            none[move] = false;
        }
        OneSledgeForTwo y = x;
        for (int move = 0; move <= 800; move++) {
            if (move % 200 == 0) {
                y = Texts.riders(0, 0, 0, 0, 0, 0);
            }
            t.due("16: none of those: " + move, y.takes(move) == -6 ? 1 : 0, none[move] ? 1 : 0);
            t.due("17: none of those: " + move, y.may(move) == -6 ? 1 : 0, none[move] ? 1 : 0);
        }
        for (int move : new int[] {-1, -10, -100, -700, Integer.MIN_VALUE, Integer.MAX_VALUE, 1000, 7000}) {
            t.due("16: takes(" + move + ")", x.takes(move), -6);
            t.due("17: may(" + move + ")", x.may(move), -6);
        }
        OneSledgeForTwo z = new OneSledgeForTwo();
        t.due("16: nobody's DOWN", z.takes(0), -6);
        t.due("16: nobody's REST", z.takes(700), 5);
        t.due("17: nobody's REST", z.may(700), 1);
        t.due("17: nobody's DOWN", z.may(0), -6);
        t.due("16: counted", z.status(16), 2);
    }

    private static void promise17(Tally t) {
        int[] moves = {0, 10, 101, 200, 210, 301, 400, 500, 600, 610, 700};
        // rows: SLEDGES at the FOOT, at the TOP, RIDERS at the TOP (bits), PENNIES; then each MOVE
        int[][] due = {
            {1, 0, 0, 0, 0, 0, 0, 1, 1, 1, 1, 0, 0, 0, 1},
            {1, 0, 0, 1, 0, 0, 0, 1, 1, 1, 1, 1, 0, 0, 1},
            {0, 1, 0, 1, 0, 0, 0, 0, 0, 0, 1, 0, 0, 0, 1},
            {0, 1, 3, 1, 1, 1, 1, 0, 0, 0, 0, 0, 1, 1, 1},
            {1, 0, 3, 1, 0, 0, 0, 0, 0, 0, 0, 0, 1, 1, 1},
            {1, 1, 1, 1, 1, 0, 0, 0, 1, 0, 0, 0, 1, 0, 1},
            {1, 1, 2, 1, 0, 1, 0, 1, 0, 0, 1, 1, 0, 1, 1},
            {0, 0, 2, 9, 0, 0, 0, 0, 0, 0, 1, 0, 0, 1, 1}};
        for (int[] row : due) {
            OneSledgeForTwo x = Texts.riders(0, 0, 0, 0);
            x.sledges(row[0], row[1]);
            x.tell(0, 0, row[2] & 1);
            x.tell(1, 0, row[2] >> 1);
            x.ask(1, row[3]);
            for (int i = 0; i < moves.length; i++) {
                String how = " with " + row[0] + row[1] + row[2] + row[3];
                t.due("17: may(" + moves[i] + ")" + how, x.may(moves[i]), row[4 + i]);
            }
        }
    }

    private static void promise17Dark(Tally t) {
        int[] moves = {0, 101, 220, 323, 420, 520, 600, 700};
        for (int move : moves) {
            OneSledgeForTwo x = Texts.riders(0, 0, 3, 0, 6, 0, 5, 0);
            x.sledges(1, 1);
            x.tell(0, 0, 1);
            x.tell(1, 0, 1);
            x.ask(1, 1);
            x.ask(3, 6);
            int takes = x.takes(move);
            x.ask(0, takes);
            t.due("17: till it is dark: " + move, x.may(move), 1);
            x.ask(0, takes - 1);
            t.due("17: it would be dark: " + move, x.may(move), 0);
        }
    }

    private static void promise18(Tally t) {
        OneSledgeForTwo x = Texts.riders(0, 0, 0, 0, 0, 0, 0, 0);
        x.sledges(1, 1);
        x.ask(1, 1);
        x.tell(1, 0, 1);
        x.tell(3, 0, 1);
        int[] due = {10, 30, 113, 200, 220, 302, 400, 420, 500, 520, 610, 630, 700};
        t.due("18: next(NONE)", x.next(-1), due.length);
        for (int i = 0; i < due.length; i++) {
            t.due("18: next(" + i + ")", x.next(i), due[i]);
        }
        t.due("18: next(13)", x.next(13), -5);
        t.due("18: next(-2)", x.next(-2), -5);
        t.due("18: next(MIN)", x.next(Integer.MIN_VALUE), -5);
        t.due("18: next(MAX)", x.next(Integer.MAX_VALUE), -5);
        x.ask(0, 0);
        t.due("18: none", x.next(-1), 0);
        t.due("18: no first", x.next(0), -5);
        OneSledgeForTwo y = Texts.riders(0, 0, 0, 0, 0, 0, 0, 0);
        y.ask(1, 1);
        t.due("18: all at the FOOT", y.next(-1), 4 + 6 + 4 + 4 + 1);
        t.due("18: the last by two", y.next(9), 323);
        t.due("18: nothing changed", y.status(4), 60);
    }

    private static void promise19(Tally t) {
        OneSledgeForTwo x = Texts.riders(3, 0, 0, 0, 4, 0);
        x.sledges(0, 3);
        x.tell(0, 0, 1);
        x.tell(1, 0, 1);
        x.tell(2, 0, 1);
        ahead(t, x, 1, 2, 101);
        ahead(t, x, 2, 3, 0, 112);
        // 0 walks up in between: the fewest minutes of those that bring four
        ahead(t, x, 3, 4, 101, 400, 102);
        x.sledges(0, 1);
        ahead(t, x, 1, 2, 101);
        ahead(t, x, 2, 2, 101);
        x.ask(2, 1);
        // 101, 301, 101 takes as long
        ahead(t, x, 3, 4, 101, 200, 102);
        x.ask(0, 2);
        ahead(t, x, 3, 2, 101);
        x.ask(0, 0);
        ahead(t, x, 3, 0);
        OneSledgeForTwo y = new OneSledgeForTwo();
        ahead(t, y, 3, 0);
    }

    private static void promise19Ties(Tally t) {
        // 0 behind 10 and 10 behind 0 bring as much as fast: the first by numbers
        OneSledgeForTwo x = Texts.riders(0, 0, 0, 0);
        x.sledges(0, 2);
        x.tell(0, 0, 1);
        x.tell(1, 0, 1);
        x.ask(3, 1);
        ahead(t, x, 2, 2, 101);
        x.tell(1, 0, 0);
        x.sledges(0, 1);
        ahead(t, x, 1, 1, 0);
        ahead(t, x, 2, 2, 410, 101);
        x.ask(0, 3);
        ahead(t, x, 2, 1, 0);
        // with fewer minutes, though later by numbers
        OneSledgeForTwo y = Texts.riders(0, 0, 3, 0);
        y.sledges(0, 1);
        y.tell(0, 0, 1);
        y.tell(1, 0, 1);
        y.ask(3, 9);
        ahead(t, y, 1, 2, 101);
        y.ask(0, 5);
        ahead(t, y, 3, 0);
        y.ask(0, 6);
        ahead(t, y, 3, 2, 101);
        // who rests ahead of a PULL is no better off when it takes longer; a row that ends goes ahead
        OneSledgeForTwo z = Texts.riders(0, 0);
        z.ask(2, 1);
        z.ask(3, 1);
        ahead(t, z, 2, 1, 200, 0);
        ahead(t, z, 3, 1, 200, 0);
        z.ask(1, 1);
        ahead(t, z, 3, 1, 200, 0);
        z.ask(2, 2);
        ahead(t, z, 3, 1, 200, 0);
        z.ask(2, 3);
        ahead(t, z, 3, 1, 500, 0);
    }

    private static void ahead(Tally t, OneSledgeForTwo x, int d, int runs, int... moves) {
        t.due("19: ahead(" + d + ", NONE)", x.ahead(d, -1), runs);
        for (int i = 0; i < moves.length; i++) {
            t.due("19: ahead(" + d + ", " + i + ")", x.ahead(d, i), moves[i]);
        }
        t.due("19: ahead(" + d + ", " + moves.length + ")", x.ahead(d, moves.length), -5);
    }

    private static void promise19Refusals(Tally t) {
        OneSledgeForTwo x = Texts.riders(0, 0);
        t.due("19: ahead(0, NONE)", x.ahead(0, -1), -6);
        t.due("19: ahead(4, NONE)", x.ahead(4, -1), -6);
        t.due("19: ahead(4, 9)", x.ahead(4, 9), -6);
        t.due("19: ahead(4, -2)", x.ahead(4, -2), -5);
        t.due("19: ahead(1, -2)", x.ahead(1, -2), -5);
        t.due("19: ahead(MIN, MIN)", x.ahead(Integer.MIN_VALUE, Integer.MIN_VALUE), -5);
        t.due("19: ahead(2, 2)", x.ahead(2, 2), -5);
        t.due("19: ahead(2, MAX)", x.ahead(2, Integer.MAX_VALUE), -5);
        t.due("19: nothing changed", x.status(4), 60);
        t.due("19: -5 counted", x.status(15), 5);
        t.due("19: -6 counted", x.status(16), 3);
    }

    private static void promise29(Tally t) {
        OneSledgeForTwo x = new OneSledgeForTwo();
        t.due("29: nobody", x.who(0), -5);
        x = Texts.riders(0, 0, 0, 0, 0, 0);
        x.tell(0, 1, 5);
        t.due("29: least TIRED, the first", x.who(0), 1);
        x.tell(1, 1, 5);
        x.tell(2, 1, 5);
        t.due("29: all alike", x.who(0), 0);
        t.due("29: RUNS alike", x.who(1), 0);
        t.due("29: WAITED alike", x.who(2), 0);
        x.sledges(0, 2);
        x.tell(2, 0, 1);
        x.move(20);
        t.due("29: most RUNS", x.who(1), 2);
        t.due("29: WAITED longest, the first", x.who(2), 0);
        t.due("29: least TIRED now", x.who(0), 0);
        x.tell(0, 0, 1);
        x.move(0);
        t.due("29: RUNS alike, the first", x.who(1), 0);
        t.due("29: WAITED longest", x.who(2), 1);
        t.due("29: another what", x.who(3), -5);
        t.due("29: another what below", x.who(-1), -5);
    }

    private static void promise30Down(Tally t) {
        OneSledgeForTwo x = Texts.riders(0, 3, 1, 3, 2, 3);
        for (int r = 0; r < 3; r++) {
            x.tell(r, 0, 1);
            x.tell(r, 1, 1 + r);
        }
        x.sledges(1, 2);
        t.due("30: DOWN alone", x.move(0), 57);
        rider(t, x, 0, 0, 1, 1, 0);
        rider(t, x, 1, 1, 0, 0, 3);
        rider(t, x, 2, 1, 0, 0, 3);
        t.due("30: SLEDGES at the FOOT", x.status(2), 2);
        t.due("30: SLEDGES at the TOP", x.status(3), 1);
        t.due("30: DOWN by two", x.move(112), 56);
        rider(t, x, 0, 0, 0, 1, 1);
        rider(t, x, 1, 0, 0, 1, 3);
        rider(t, x, 2, 0, 0, 1, 3);
        t.due("30: all SLEDGES at the FOOT", x.status(2), 3);
        t.due("30: RUNS of all", x.status(8), 3);
        x.tell(1, 0, 1);
        x.tell(1, 1, 20);
        t.due("30: WALK down", x.move(610), 52);
        rider(t, x, 1, 0, 20, 1, 3);
        rider(t, x, 0, 0, 0, 1, 5);
        t.due("30: no SLEDGE moved", x.status(2), 3);
    }

    private static void promise30Up(Tally t) {
        OneSledgeForTwo x = Texts.riders(0, 7, 2, 7, 5, 9, 6, 0);
        x.sledges(3, 0);
        x.ask(1, 2);
        t.due("30: PULL alone", x.move(200), 54);
        rider(t, x, 0, 1, 15, 0, 0);
        rider(t, x, 3, 0, 0, 0, 6);
        t.due("30: a SLEDGE up", x.status(3), 1);
        t.due("30: PULL alone of a STRONG one", x.move(210), 50);
        rider(t, x, 1, 1, 5, 0, 6);
        rider(t, x, 0, 1, 11, 0, 4);
        t.due("30: PULL by two", x.move(323), 50 - (3 + 12) / 2);
        rider(t, x, 2, 1, 2, 0, 10);
        rider(t, x, 3, 1, 4, 0, 10);
        t.due("30: all SLEDGES up", x.status(3), 3);
        t.due("30: none at the FOOT", x.status(2), 0);
        x.sledges(3, 0);
        x.tell(3, 0, 0);
        t.due("30: LIFT", x.move(530), 41);
        rider(t, x, 3, 1, 4, 0, 10);
        t.due("30: a PENNY less", x.status(5), 1);
        t.due("30: a SLEDGE up by LIFT", x.status(3), 1);
        t.due("30: a SLEDGE less by LIFT", x.status(2), 2);
        x.tell(0, 0, 0);
        x.tell(0, 1, 97);
        t.due("30: WALK up", x.move(400), 41 - (3 + 9 + 1));
        rider(t, x, 0, 1, 99, 0, 4 + 7 + 2);
        t.due("30: no SLEDGE moved", x.status(2), 2);
        x.tell(1, 0, 0);
        x.tell(1, 1, 97);
        x.move(210);
        t.due("30: 99 at most", x.riderOf(1, 3), 99);
        x.ask(0, 99);
        x.tell(0, 0, 0);
        x.tell(2, 0, 0);
        x.tell(0, 1, 98);
        x.tell(2, 1, 98);
        x.move(302);
        t.due("30: 99 at most by two", x.riderOf(0, 3), 99);
        t.due("30: 99 at most by two, a TOUGH one", x.riderOf(2, 3), 99);
    }

    private static void promise30Rest(Tally t) {
        OneSledgeForTwo x = Texts.riders(0, 0, 0, 0);
        x.tell(0, 1, 4);
        x.tell(1, 1, 9);
        x.tell(1, 0, 1);
        t.due("30: REST", x.move(700), 55);
        rider(t, x, 0, 0, 0, 0, 0);
        rider(t, x, 1, 1, 4, 0, 0);
        x.ask(0, 5);
        t.due("30: the last REST", x.move(700), 0);
        t.due("30: it is dark", x.move(700), -6);
        t.due("30: nobody's REST", new OneSledgeForTwo().move(700), 55);
    }

    private static void rider(Tally t, OneSledgeForTwo x, int r, int where, int tired, int runs, int waited) {
        t.due("30: where " + r, x.riderOf(r, 2), where);
        t.due("30: TIRED " + r, x.riderOf(r, 3), tired);
        t.due("30: RUNS " + r, x.riderOf(r, 4), runs);
        t.due("30: WAITED " + r, x.riderOf(r, 5), waited);
    }

    private static void promise30Refusals(Tally t) {
        OneSledgeForTwo x = Texts.riders(0, 0, 0, 0);
        int[] wrong = {0, 101, 500, 600, 1, 110, 100, 201, 310, 701, 800, -1, 220, Integer.MIN_VALUE, Integer.MAX_VALUE};
        for (int move : wrong) {
            t.due("30: move(" + move + ")", x.move(move), -6);
        }
        t.due("30: nothing changed", x.status(4), 60);
        t.due("30: all counted", x.status(16), wrong.length);
    }
}
