/** Promises 1 and 9 to 15: what there is, what becomes of it by telling, HILLS read from texts. */
final class HillTests {
    private HillTests() {
    }

    static void run(Tally t) {
        promise1(t);
        promise9(t);
        promise10(t);
        promise11(t);
        promise12(t);
        promise13(t);
        promise14(t);
        promise14OverWhatThereIs(t);
        promise14Refusals(t);
        promise15(t);
        faults(t);
        faultsOfWords(t);
        faultsOfRoom(t);
    }

    private static void promise1(Tally t) {
        OneSledgeForTwo x = new OneSledgeForTwo();
        int[] due = {0, 0, 1, 0, 60, 0, 6, 3, 0, 1, 0, 0, 0, 0, 0, 0, 0, 0, -1};
        for (int what = 0; what < due.length; what++) {
            t.due("1: status(" + what + ")", x.status(what), due[what]);
        }
        for (int s = 0; s < 8; s++) {
            t.due("1: holds(" + s + ")", x.holds(s), -1);
        }
        t.due("1: fault()", x.fault(), -1);
        t.due("1: trace(0)", x.trace(0), -1);
        t.due("1: restore()", x.restore(), -6);
        t.due("1: NONE", OneSledgeForTwo.NONE, -1);
    }

    private static void promise9(Tally t) {
        OneSledgeForTwo x = new OneSledgeForTwo();
        t.due("9: rider(7, 0)", x.rider(7, 0), -1);
        t.due("9: rider(-1, 10)", x.rider(-1, 10), -1);
        t.due("9: rider(0, 10)", x.rider(0, 10), -6);
        t.due("9: rider(0, -1)", x.rider(0, -1), -6);
        t.due("9: rider(6, 9)", x.rider(6, 9), 0);
        t.due("9: rider(0, 0)", x.rider(0, 0), 1);
        t.due("9: rider(3, 5)", x.rider(3, 5), 2);
        t.due("9: rider(5, 1)", x.rider(5, 1), 3);
        t.due("9: a fifth", x.rider(5, 1), -7);
        t.due("9: a fifth of no such a", x.rider(5, 10), -6);
        t.due("9: a fifth of no KIND", x.rider(9, 10), -1);
        t.due("9: four", x.status(0), 4);
    }

    private static void promise10(Tally t) {
        OneSledgeForTwo x = Texts.riders(6, 9, 2, 4);
        x.tell(0, 0, 1);
        x.tell(0, 1, 33);
        x.sledges(0, 1);
        x.move(0);
        int[][] due = {{6, 9, 0, 33, 1, 0}, {2, 4, 0, 0, 0, 4}};
        for (int r = 0; r < 2; r++) {
            for (int what = 0; what < 6; what++) {
                t.due("10: riderOf(" + r + ", " + what + ")", x.riderOf(r, what), due[r][what]);
            }
        }
        t.due("10: another what", x.riderOf(0, 6), -5);
        t.due("10: another what below", x.riderOf(0, -1), -5);
        t.due("10: no such one", x.riderOf(2, 0), -5);
        t.due("10: no such one below", x.riderOf(-1, 0), -5);
        t.due("10: counted", x.status(15), 4);
        t.due("10: not as NOBODY", x.status(11), 0);
    }

    private static void promise11(Tally t) {
        OneSledgeForTwo x = Texts.riders(0, 0, 0, 0);
        t.due("11: tell(1, 0, 1)", x.tell(1, 0, 1), 0);
        t.due("11: tell(1, 0, 1) again", x.tell(1, 0, 1), 1);
        t.due("11: at the TOP", x.status(1), 2);
        t.due("11: tell(1, 0, 0)", x.tell(1, 0, 0), 1);
        t.due("11: at the FOOT", x.riderOf(1, 2), 0);
        t.due("11: tell(0, 1, 99)", x.tell(0, 1, 99), 0);
        t.due("11: tell(0, 1, 0)", x.tell(0, 1, 0), 99);
        t.due("11: no RIDER", x.tell(2, 5, 0), -1);
        t.due("11: no RIDER below", x.tell(-1, 0, 0), -1);
        t.due("11: where 2", x.tell(0, 0, 2), -6);
        t.due("11: where -1", x.tell(0, 0, -1), -6);
        t.due("11: TIRED 100", x.tell(0, 1, 100), -6);
        t.due("11: TIRED -1", x.tell(0, 1, -1), -6);
        t.due("11: another what", x.tell(0, 2, 0), -6);
        t.due("11: another what below", x.tell(0, -1, 0), -6);
        t.due("11: it stays", x.riderOf(0, 3), 0);
    }

    private static void promise12(Tally t) {
        OneSledgeForTwo x = new OneSledgeForTwo();
        t.due("12: sledges(1, 2)", x.sledges(1, 2), 3);
        t.due("12: at the FOOT", x.status(2), 1);
        t.due("12: at the TOP", x.status(3), 2);
        int[][] wrong = {{4, 0}, {0, 4}, {-1, 1}, {1, -1}, {2, 2}, {3, 1}, {4, -1}, {Integer.MAX_VALUE, 1},
            {Integer.MIN_VALUE, Integer.MAX_VALUE}, {Integer.MIN_VALUE, 0}};
        for (int[] pair : wrong) {
            t.due("12: sledges(" + pair[0] + ", " + pair[1] + ")", x.sledges(pair[0], pair[1]), -6);
        }
        t.due("12: it stays at the FOOT", x.status(2), 1);
        t.due("12: it stays at the TOP", x.status(3), 2);
        t.due("12: sledges(0, 0)", x.sledges(0, 0), 0);
        t.due("12: sledges(3, 0)", x.sledges(3, 0), 3);
        t.due("12: sledges(0, 3)", x.sledges(0, 3), 3);
    }

    private static void promise13(Tally t) {
        OneSledgeForTwo x = new OneSledgeForTwo();
        int[] first = {60, 0, 6, 3};
        int[] least = {0, 0, 1, 1};
        int[] most = {999, 99, 9, 9};
        for (int what = 0; what < 4; what++) {
            String ask = "13: ask(" + what + ", ";
            t.due(ask + "most + 1)", x.ask(what, most[what] + 1), -6);
            t.due(ask + "least - 1)", x.ask(what, least[what] - 1), -6);
            t.due(ask + "most)", x.ask(what, most[what]), first[what]);
            t.due(ask + "least)", x.ask(what, least[what]), most[what]);
            t.due("13: it is so " + what, x.status(4 + what), least[what]);
        }
        t.due("13: another what", x.ask(4, 1), -6);
        t.due("13: another what below", x.ask(-1, 1), -6);
        t.due("13: counted", x.status(16), 10);
    }

    private static void promise14(Tally t) {
        OneSledgeForTwo x = new OneSledgeForTwo();
        t.due("14: all sorts of ITEMS", Texts.hill(x,
            "rider 3 07;rider 6 0;top 1;top 0;foot 0;sledges 0 2;minutes 099;pennies 9;hill 1 009;move 10"), 10);
        int[] due = {2, 0, 1, 1, 89, 9, 1, 9, 1};
        for (int what = 0; what < due.length; what++) {
            t.due("14: status(" + what + ")", x.status(what), due[what]);
        }
        t.due("14: KIND", x.riderOf(0, 0), 3);
        t.due("14: a", x.riderOf(0, 1), 7);
        t.due("14: a KIND 6", x.riderOf(1, 0), 6);
        t.due("14: one ITEM", Texts.hill(x, "pennies 99"), 1);
        t.due("14: PENNIES", x.status(5), 99);
        t.due("14: REST in truth", Texts.hill(x, "move 700;move 700"), 2);
        t.due("14: MINUTES", x.status(4), 79);
        t.due("14: 999 MINUTES", Texts.hill(x, "minutes 999"), 1);
        t.due("14: 0 MINUTES", Texts.hill(x, "minutes 000"), 1);
        t.due("14: so it is dark", x.status(4), 0);
        OneSledgeForTwo y = new OneSledgeForTwo();
        String text = "hill 2 5;pennies 7;foot 0";
        y.rider(0, 0);
        y.tell(0, 0, 1);
        Texts.put(y, 0, 3, text);
        for (int i = 0; i < text.length(); i++) {
            y.set(0, i, text.charAt(i) + (5L << 32));
        }
        t.due("14: longs by their lowest bits", y.hill(0), 3);
        t.due("14: STEEP", y.status(6), 2);
        t.due("14: FOOT", y.status(1), 0);
        Texts.put(y, 1, 1, "minutes 5");
        t.due("14: shorts", y.hill(1), 1);
        Texts.put(y, 1, 2, "minutes 6");
        t.due("14: ints", y.hill(1), 1);
        t.due("14: ints told", y.status(4), 6);
    }

    private static void promise14OverWhatThereIs(Tally t) {
        OneSledgeForTwo x = Texts.riders(2, 0);
        x.seed(77);
        t.due("14: over what there is", Texts.hill(x, "move 200;rider 0 1;move 000;top 1"), 4);
        t.due("14: a RIDER more", x.status(0), 2);
        t.due("14: a RUN", x.riderOf(0, 4), 1);
        t.due("14: TIRED less nothing", x.riderOf(0, 3), 5);
        t.due("14: WAITED", x.riderOf(1, 5), 3);
        t.due("14: SEED stays", x.status(9), 77);
        int minutes = x.status(4);
        t.due("14: minutes", minutes, 60 - 4 - 3);
        t.due("14: all or nothing", Texts.hill(x, "rider 0 0;hill 9 9;sledges 3 0;move 200;pennies 100"), -6);
        t.due("14: no RIDER came", x.status(0), 2);
        t.due("14: no STEEP", x.status(6), 6);
        t.due("14: no SLEDGES", x.status(2), 1);
        t.due("14: no MOVE", x.status(4), minutes);
    }

    private static void promise14Refusals(Tally t) {
        OneSledgeForTwo x = Texts.riders(2, 0);
        x.show(0, 0);
        t.due("14: no SHELF", x.hill(8), -1);
        t.due("14: no SHELF below", x.hill(-1), -1);
        t.due("14: a RIDER", x.hill(0), -2);
        t.due("14: NOTHING", x.hill(1), -3);
        x.row(1, 0, 0);
        t.due("14: an empty ROW", x.hill(1), -6);
        t.due("14: NOBODY counted", x.status(11), 2);
        t.due("14: OTHER counted", x.status(12), 1);
        t.due("14: NOTHING counted", x.status(13), 1);
        t.due("14: WRONG counted", x.status(16), 1);
    }

    private static void promise15(Tally t) {
        OneSledgeForTwo x = new OneSledgeForTwo();
        t.due("15: none yet", x.fault(), -1);
        Texts.hill(x, "hill 5 x");
        t.due("15: the FAULT", x.fault(), 7);
        x.hill(9);
        x.hill(6);
        t.due("15: only of one that came to a ROW", x.fault(), 7);
        Texts.hill(x, "hill 5 5");
        t.due("15: there was none", x.fault(), -1);
    }

    private static void fault(Tally t, String text, int due) {
        OneSledgeForTwo x = Texts.riders(0, 1, 1, 1);
        t.due("15: hill '" + text + "'", Texts.hill(x, text), -6);
        t.due("15: fault '" + text + "'", x.fault(), due);
        t.due("15: still two RIDERS '" + text + "'", x.status(0), 2);
    }

    private static void faults(Tally t) {
        fault(t, "rider 7 1", 6);
        fault(t, "rider 9", 6);
        fault(t, "rider 06x", 8);
        fault(t, "rider 77x", 6);
        fault(t, "rider 0001 1", 9);
        fault(t, "rider 1 10", 8);
        fault(t, "rider 1 100", 8);
        fault(t, "rider 1 9x", 9);
        fault(t, "rider 1", 7);
        fault(t, "rider 1 ", 8);
        fault(t, "rider 1;", 7);
        fault(t, "rider  1 1", 6);
        fault(t, "rider 1  1", 8);
        fault(t, "rider 1 1 ", 9);
        fault(t, "rider -1 1", 6);
        fault(t, "top 2", 4);
        fault(t, "top 02x", 4);
        fault(t, "foot 2", 5);
        fault(t, "foot", 4);
        fault(t, "foot 1 1", 6);
        fault(t, "sledges 4 0", 8);
        fault(t, "sledges 3 1", 10);
        fault(t, "sledges 2 02", 10);
        fault(t, "sledges 0 4", 10);
        fault(t, "sledges 0 ", 10);
        fault(t, "sledges 4", 8);
        fault(t, "minutes 1000", 11);
        fault(t, "minutes 9999", 11);
        fault(t, "minutes ", 8);
        fault(t, "minutes", 7);
        fault(t, "minutes x", 8);
        fault(t, "pennies 100", 8);
        fault(t, "pennies 1000", 8);
        fault(t, "pennies 0990", 11);
        fault(t, "hill 0 3", 5);
        fault(t, "hill 10 3", 5);
        fault(t, "hill 3 0", 7);
        fault(t, "hill 3 10", 7);
        fault(t, "hill 3", 6);
        fault(t, "move 700;move 0", 14);
        fault(t, "move 7", 5);
        fault(t, "move 701", 5);
        fault(t, "move 2000", 8);
        fault(t, "move 2010", 5);
        fault(t, "move 999x", 5);
        fault(t, "minutes 5;move 200", 15);
        fault(t, "minutes 4;move 700", 15);
        fault(t, "minutes 5;", 10);
        fault(t, "minutes 5; pennies 5", 10);
        fault(t, "minutes 5 ;pennies 5", 9);
        fault(t, "minutes 5;;pennies 5", 10);
        fault(t, "minutes 5:", 9);
        fault(t, "minutes 5,pennies 5", 9);
        fault(t, " minutes 5", 0);
        fault(t, "minutes 5 ", 9);
    }

    private static void faultsOfWords(Tally t) {
        fault(t, "", 0);
        fault(t, "x", 0);
        fault(t, "Rider 1 1", 0);
        fault(t, "m", 1);
        fault(t, "mx", 1);
        fault(t, "mi", 2);
        fault(t, "mo", 2);
        fault(t, "mov ", 3);
        fault(t, "move700", 4);
        fault(t, "minuteS 5", 6);
        fault(t, "rid", 3);
        fault(t, "rides 1 1", 4);
        fault(t, "riders 1 1", 5);
        fault(t, "to", 2);
        fault(t, "too 1", 2);
        fault(t, "tap 1", 1);
        fault(t, "fool 1", 3);
        fault(t, "sledge 1 1", 6);
        fault(t, "penny 1", 4);
        fault(t, "hil", 3);
        fault(t, "hall 1 1", 1);
        fault(t, "hill 1 1;;", 9);
        fault(t, "hill 1 1;ride", 13);
    }

    private static void faultsOfRoom(Tally t) {
        String two = "rider 0 0;rider 0 0;";
        fault(t, two + "rider 0 0", 20);
        fault(t, two + "rider", 20);
        fault(t, two + "riderx", 20);
        fault(t, two + "ride", 24);
        fault(t, two + "ridex", 24);
        fault(t, two + "rider 9 99", 20);
        fault(t, two + "top 4", 24);
        OneSledgeForTwo x = Texts.riders(0, 1, 1, 1);
        t.due("14: room for four", Texts.hill(x, two + "top 3"), 3);
        t.due("14: four", x.status(0), 4);
        OneSledgeForTwo y = new OneSledgeForTwo();
        t.due("15: no RIDER to be at the TOP", Texts.hill(y, "top 0"), -6);
        t.due("15: its first digit", y.fault(), 4);
        StringBuilder rests = new StringBuilder("minutes 999");
        rests.append(";move 700".repeat(16));
        t.due("14: a long text", Texts.hill(y, rests.toString()), 17);
        t.due("14: sixteen RESTS", y.status(4), 999 - 16 * 5);
        y = Texts.riders(0, 0);
        String longest = "minutes 99" + ";move 700".repeat(16);
        t.due("14: as long as a ROW can be", Texts.hill(y, longest + ";top 0"), 18);
        t.due("14: its last ITEM", y.status(1), 1);
        t.due("15: a FAULT at the last element", Texts.hill(y, longest + ";top 1"), -6);
        t.due("15: it is there", y.fault(), 159);
    }
}
