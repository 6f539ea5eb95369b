/** Promises 2 to 8: SHELVES, ROWS, RIDERS shown. */
final class ShelfTests {
    private ShelfTests() {
    }

    static void run(Tally t) {
        promise2(t);
        promise3(t);
        promise4(t);
        promise4Refusals(t);
        promise5(t);
        promise6(t);
        promise7(t);
        promise8(t);
    }

    private static void promise2(Tally t) {
        OneSledgeForTwo x = Texts.riders(0, 3);
        t.due("2: row(0, 0, 0)", x.row(0, 0, 0), 1);
        t.due("2: row(7, 3, 160)", x.row(7, 3, 160), 1);
        t.due("2: element(7, 159) at first", x.element(7, 159), 0);
        t.due("2: set(7, 159)", x.set(7, 159, 5), 1);
        t.due("2: set(7, 160)", x.set(7, 160, 5), -5);
        t.due("2: a refused row leaves the SHELF", x.row(7, 4, 160), -6);
        t.due("2: so it holds", x.holds(7), 103);
        t.due("2: so it has", x.element(7, 159), 5);
        t.due("2: row(7, 3, 160) anew", x.row(7, 3, 160), 1);
        t.due("2: 0 at first again", x.element(7, 159), 0);
        x.set(7, 3, 9);
        x.row(7, 3, 2);
        x.row(7, 3, 5);
        t.due("2: 0 behind a shorter one", x.element(7, 3), 0);
        x.show(3, 0);
        t.due("2: in place of a RIDER", x.row(3, 1, 1), 1);
        t.due("2: holds(3)", x.holds(3), 101);
        t.due("2: row(-1, 0, 1)", x.row(-1, 0, 1), -1);
        t.due("2: row(8, 9, -1)", x.row(8, 9, -1), -1);
        t.due("2: row(0, 9, -1)", x.row(0, 9, -1), -4);
        t.due("2: row(0, 4, 161)", x.row(0, 4, 161), -6);
        t.due("2: row(0, -1, 1)", x.row(0, -1, 1), -6);
        t.due("2: row(0, 0, 161)", x.row(0, 0, 161), -7);
    }

    private static void promise3(Tally t) {
        OneSledgeForTwo x = Texts.riders(0, 3);
        for (int sort = 0; sort < 4; sort++) {
            x.row(sort, sort, 3);
            t.due("3: set(" + sort + ", 0, 200)", x.set(sort, 0, 200), 1);
            x.set(sort, 1, 40000);
            x.set(sort, 2, 0x1_8000_0007L);
        }
        long[][] due = {{-56, 64, 7}, {200, -25536, 7}, {200, 40000, (int) 0x8000_0007L}, {200, 40000, 0x1_8000_0007L}};
        for (int sort = 0; sort < 4; sort++) {
            for (int i = 0; i < 3; i++) {
                t.due("3: lowest bits of SORT " + sort + " at " + i, x.element(sort, i), due[sort][i]);
            }
        }
        x.set(3, 0, Long.MIN_VALUE);
        t.due("3: a long whole", x.element(3, 0), Long.MIN_VALUE);
        x.show(5, 0);
        t.due("3: set(8, ..)", x.set(8, 0, 1), -1);
        t.due("3: set(-1, ..)", x.set(-1, 0, 1), -1);
        t.due("3: set of a RIDER", x.set(5, 9, 1), -2);
        t.due("3: set of NOTHING", x.set(6, 0, 1), -3);
        t.due("3: set(0, 3)", x.set(0, 3, 1), -5);
        t.due("3: set(0, -1)", x.set(0, -1, 1), -5);
        t.due("3: set(0, MIN)", x.set(0, Integer.MIN_VALUE, 1), -5);
    }

    private static void promise4(Tally t) {
        OneSledgeForTwo x = new OneSledgeForTwo();
        Texts.put(x, 0, 1, 2, 3, 4, 5);
        Texts.put(x, 1, 11, 12, 13);
        t.due("4: copy(0, 1, 1, 0, 2)", x.copy(0, 1, 1, 0, 2), 1);
        t.due("4: first", x.element(1, 0), 2);
        t.due("4: second", x.element(1, 1), 3);
        t.due("4: the rest stays", x.element(1, 2), 13);
        t.due("4: the source stays", x.element(0, 1), 2);
        t.due("4: up over itself", x.copy(0, 0, 0, 1, 4), 1);
        t.due("4: as ahead, up", x.element(0, 4), 4);
        t.due("4: as ahead, up in between", x.element(0, 2), 2);
        t.due("4: down over itself", x.copy(0, 0, 1, 0, 4), 1);
        t.due("4: as ahead, down", x.element(0, 0), 1);
        t.due("4: as ahead, down at the end", x.element(0, 3), 4);
        t.due("4: none at the end", x.copy(0, 1, 5, 3, 0), 1);
        Texts.put(x, 2, 3, "ab");
        Texts.put(x, 3, 3, "cd");
        x.set(2, 1, 1L << 40);
        t.due("4: longs", x.copy(2, 3, 1, 1, 1), 1);
        t.due("4: a long whole", x.element(3, 1), 1L << 40);
        t.due("4: beside it", x.element(3, 0), 'c');
    }

    private static void promise4Refusals(Tally t) {
        OneSledgeForTwo x = Texts.riders(0, 3);
        Texts.put(x, 0, 1, 2, 3);
        Texts.put(x, 1, 7, 8);
        Texts.put(x, 2, 0, "ab");
        x.show(3, 0);
        t.due("4: copy(8, ..)", x.copy(8, 3, 0, 0, -1), -1);
        t.due("4: copy(.., -1)", x.copy(0, -1, 0, 0, 1), -1);
        t.due("4: two SORTS", x.copy(0, 2, 0, 0, -1), -2);
        t.due("4: from a RIDER", x.copy(3, 0, 0, 0, -1), -2);
        t.due("4: to a RIDER", x.copy(0, 3, 0, 0, 1), -2);
        t.due("4: from NOTHING to a RIDER", x.copy(4, 3, 0, 0, 1), -2);
        t.due("4: from NOTHING", x.copy(4, 0, 0, 0, -1), -3);
        t.due("4: to NOTHING", x.copy(0, 4, 0, 0, -1), -3);
        t.due("4: n below 0", x.copy(0, 1, -1, 0, -1), -4);
        t.due("4: i below 0", x.copy(0, 1, -1, 0, 1), -5);
        t.due("4: j below 0", x.copy(0, 1, 0, -1, 1), -5);
        t.due("4: an end beyond p", x.copy(0, 1, 2, 0, 2), -5);
        t.due("4: an end beyond q", x.copy(0, 1, 0, 1, 2), -5);
        t.due("4: none behind the end", x.copy(0, 1, 4, 0, 0), -5);
        t.due("4: greatest n", x.copy(0, 1, 1, 1, Integer.MAX_VALUE), -5);
        t.due("4: greatest i", x.copy(0, 1, Integer.MAX_VALUE, 0, 1), -5);
        t.due("4: greatest all", x.copy(0, 1, Integer.MAX_VALUE, Integer.MAX_VALUE, Integer.MAX_VALUE), -5);
        t.due("4: nothing came", x.element(1, 0), 7);
        t.due("4: nothing came to the end", x.element(1, 1), 8);
    }

    private static void promise5(Tally t) {
        OneSledgeForTwo x = Texts.riders(0, 3);
        Texts.put(x, 0, 1, 2, -3);
        x.show(1, 0);
        t.due("5: element(0, 2)", x.element(0, 2), -3);
        t.due("5: behind the end", x.element(0, 3), 0);
        t.due("5: ahead of the beginning", x.element(0, -1), 0);
        t.due("5: of a RIDER", x.element(1, 0), 0);
        Texts.put(x, 3, 4, 5);
        x.show(3, 0);
        t.due("5: of a RIDER in place of a ROW", x.element(3, 1), 0);
        x.show(3, -1);
        t.due("5: of NOTHING in place of a ROW", x.element(3, 0), 0);
        t.due("5: of NOTHING", x.element(2, 0), 0);
        t.due("5: of no SHELF", x.element(8, 0), 0);
        t.due("5: of no SHELF below", x.element(-1, 0), 0);
        for (int refusal = 11; refusal <= 17; refusal++) {
            t.due("5: nothing refused: " + refusal, x.status(refusal), 0);
        }
    }

    private static void promise6(Tally t) {
        OneSledgeForTwo x = Texts.riders(0, 3, 4, 1);
        t.due("6: show(0, 1)", x.show(0, 1), 1);
        t.due("6: holds(0)", x.holds(0), 1);
        t.due("6: show(0, 2)", x.show(0, 2), -1);
        t.due("6: it stays", x.holds(0), 1);
        t.due("6: show(0, -2)", x.show(0, -2), -1);
        t.due("6: show(8, 0)", x.show(8, 0), -1);
        t.due("6: show(-1, NONE)", x.show(-1, -1), -1);
        t.due("6: show(0, NONE)", x.show(0, -1), 0);
        t.due("6: NOTHING", x.holds(0), -1);
        x.row(1, 2, 4);
        t.due("6: in place of a ROW", x.show(1, 0), 1);
        t.due("6: no ROW", x.set(1, 0, 1), -2);
        x.row(2, 2, 4);
        t.due("6: NOTHING in place of a ROW", x.show(2, -1), 0);
        t.due("6: no ROW either", x.set(2, 0, 1), -3);
    }

    private static void promise7(Tally t) {
        OneSledgeForTwo x = Texts.riders(0, 3, 4, 1);
        t.due("7: at first", x.holds(0), -1);
        for (int sort = 0; sort < 4; sort++) {
            x.row(sort, sort, 0);
            t.due("7: SORT " + sort, x.holds(sort), 100 + sort);
        }
        x.show(7, 0);
        t.due("7: a RIDER", x.holds(7), 0);
        t.due("7: no SHELF", x.holds(8), -1);
        t.due("7: no SHELF below", x.holds(-1), -1);
        t.due("7: nothing refused", x.status(11), 0);
    }

    private static void promise8(Tally t) {
        OneSledgeForTwo x = Texts.riders(3, 2, 5, 0, 6, 1, 0, 0);
        x.ask(2, 9);
        x.ask(3, 7);
        for (int r = 0; r < 4; r++) {
            x.tell(r, 1, 40 + r);
            x.show(r, r);
        }
        x.tell(2, 0, 1);
        x.sledges(0, 1);
        x.move(20);
        // nobody but the BABY moved: it took LONG and 1, so that the others are 8 less TIRED
        int[][] due = {
            {0, 5, -2, 5, -2, -2, -2},
            {0, -2, 9, -2, -2, 9, -2},
            {1, -2, -2, -2, 9, -2, 9},
            {0, -2, -2, -2, -2, -2, -2}};
        for (int s = 0; s < 4; s++) {
            for (int kind = 0; kind < 7; kind++) {
                t.due("8: says(" + s + ", " + kind + ")", x.says(s, kind), due[s][kind]);
            }
        }
        OneSledgeForTwo y = Texts.riders(1, 0, 2, 0, 4, 0);
        y.ask(3, 9);
        for (int r = 0; r < 3; r++) {
            y.show(r, r);
        }
        t.due("8: HEAVY is no STEERER", y.says(0, 3), -2);
        t.due("8: HEAVY", y.says(0, 1), 8);
        t.due("8: STRONG is not TOUGH", y.says(1, 5), -2);
        t.due("8: STRONG", y.says(1, 2), 4);
        t.due("8: SMALL is no BABY", y.says(2, 6), -2);
        t.due("8: SMALL", y.says(2, 4), 4);
        y.row(3, 0, 0);
        t.due("8: a ROW", y.says(3, 0), -2);
        t.due("8: NOTHING", y.says(4, 0), -3);
        t.due("8: no KIND", y.says(4, 7), -1);
        t.due("8: no KIND below", y.says(0, -1), -1);
        t.due("8: no SHELF", y.says(8, 0), -1);
        t.due("8: no SHELF below", y.says(-1, 0), -1);
    }
}
