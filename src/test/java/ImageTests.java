/** Promises 37 to 39: THE IMAGE, how many there are of all, REFUSALS counted. */
final class ImageTests {
    private ImageTests() {
    }

    static void run(Tally t) {
        promise37(t);
        promise38(t);
        promise38Shelves(t);
        promise39(t);
        promise39Refusals(t);
    }

    private static OneSledgeForTwo busy() {
        OneSledgeForTwo x = Texts.riders(0, 1, 2, 4);
        x.sledges(1, 1);
        x.tell(1, 0, 1);
        x.tell(0, 1, 44);
        x.ask(0, 50);
        x.ask(1, 9);
        x.ask(2, 8);
        x.ask(3, 7);
        x.seed(5);
        x.move(10);
        return x;
    }

    private static int[] all(OneSledgeForTwo x) {
        int[] told = new int[10 + 24];
        for (int what = 0; what < 10; what++) {
            told[what] = x.status(what);
        }
        for (int i = 0; i < 24; i++) {
            int r = i / 6;
            told[10 + i] = r < x.status(0) ? x.riderOf(r, i % 6) : -1;
        }
        return told;
    }

    private static void promise37(Tally t) {
        OneSledgeForTwo x = busy();
        int[] ahead = all(x);
        t.due("37: image()", x.image(), 2);
        int[] behind = all(x);
        for (int i = 0; i < ahead.length; i++) {
            t.due("37: nothing changed: " + i, behind[i], ahead[i]);
        }
        t.due("37: of nobody", new OneSledgeForTwo().image(), 0);
    }

    private static void promise38(Tally t) {
        OneSledgeForTwo x = new OneSledgeForTwo();
        t.due("38: there is none", x.restore(), -6);
        x = busy();
        int[] ahead = all(x);
        x.image();
        for (int round = 0; round < 2; round++) {
            x.rider(6, 6);
            x.winter(9);
            x.day(99);
            x.sledges(0, 0);
            x.ask(1, 1);
            x.ask(2, 2);
            x.ask(3, 3);
            t.due("38: restore()", x.restore(), 2);
            int[] behind = all(x);
            for (int i = 0; i < ahead.length; i++) {
                t.due("38: as it was: " + i, behind[i], ahead[i]);
            }
        }
        t.due("38: a RIDER anew", x.rider(3, 9), 2);
        int[] due = {3, 9, 0, 0, 0, 0};
        for (int what = 0; what < due.length; what++) {
            t.due("38: he begins: " + what, x.riderOf(2, what), due[what]);
        }
        x.hill(9);
        Texts.hill(x, "hill x");
        x.act(0, 0, 1);
        x.restore();
        t.due("38: REFUSALS stay", x.status(11), 1);
        t.due("38: the FAULT stays", x.fault(), 5);
        t.due("38: THE TRACE stays", x.trace(0), 10);
        x.image();
        x.move(700);
        x.image();
        x.restore();
        t.due("38: the latest IMAGE", x.status(4), 50 - 7 - 5);
    }

    private static void promise38Shelves(Tally t) {
        OneSledgeForTwo x = Texts.riders(0, 1);
        Texts.put(x, 0, 7, 8);
        x.image();
        x.rider(1, 1);
        x.rider(2, 2);
        x.show(1, 0);
        x.show(2, 1);
        x.show(3, 2);
        Texts.put(x, 4, 9);
        x.set(0, 0, 70);
        t.due("38: restore()", x.restore(), 1);
        t.due("38: a RIDER of that number", x.holds(1), 0);
        t.due("38: none of that number", x.holds(2), -1);
        t.due("38: none of that number either", x.holds(3), -1);
        t.due("38: a ROW stays", x.holds(4), 102);
        t.due("38: its elements stay", x.element(0, 0), 70);
        t.due("38: says of NOTHING", x.says(2, 0), -3);
        x.rider(4, 0);
        t.due("38: NOTHING though he is there again", x.holds(2), -1);
        for (int s = 0; s < 8; s++) {
            x.show(s, 1);
        }
        x.restore();
        for (int s = 0; s < 8; s++) {
            t.due("38: every SHELF: " + s, x.holds(s), -1);
        }
        x.rider(4, 0);
        x.image();
        x.show(5, 1);
        x.restore();
        t.due("38: shown behind THE IMAGE", x.holds(5), 1);
        t.due("38: he speaks", x.says(5, 4), 4);
    }

    private static void promise39(Tally t) {
        OneSledgeForTwo x = busy();
        int[] due = {2, 0, 2, 0, 43, 9, 8, 7, 1, 5, 0, 0, 0, 0, 0, 0, 0, 0};
        for (int what = 0; what < due.length; what++) {
            t.due("39: status(" + what + ")", x.status(what), due[what]);
        }
        x.rider(0, 0);
        x.rider(0, 0);
        x.tell(3, 0, 1);
        x.tell(1, 0, 1);
        t.due("39: bits", x.status(1), 10);
        t.due("39: another what", x.status(18), -1);
        t.due("39: another what below", x.status(-1), -1);
        t.due("39: least", x.status(Integer.MIN_VALUE), -1);
        t.due("39: greatest", x.status(Integer.MAX_VALUE), -1);
        t.due("39: that is no refusal", x.status(11), 0);
    }

    private static void promise39Refusals(Tally t) {
        OneSledgeForTwo x = Texts.riders(0, 0, 0, 0, 0, 0, 0, 0);
        x.show(1, 0);
        for (int i = 0; i < 1; i++) {
            x.row(8, 0, 0);
        }
        for (int i = 0; i < 2; i++) {
            x.set(1, 0, 0);
        }
        for (int i = 0; i < 3; i++) {
            x.set(0, 0, 0);
        }
        for (int i = 0; i < 4; i++) {
            x.row(0, 0, -1);
        }
        for (int i = 0; i < 5; i++) {
            x.next(99);
        }
        for (int i = 0; i < 6; i++) {
            x.move(-1);
        }
        for (int i = 0; i < 7; i++) {
            x.rider(0, 0);
        }
        for (int i = 1; i <= 7; i++) {
            t.due("39: REFUSALS -" + i, x.status(10 + i), i);
        }
        x.day(5);
        x.image();
        x.restore();
        t.due("39: they stay", x.status(17), 7);
        t.due("39: WRONG stays", x.status(16), 6);
    }
}
