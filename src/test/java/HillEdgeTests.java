/** The boundary sentences of 'THE HILL', of the Details on texts and of promises 1 and 9 to 15. */
final class HillEdgeTests {
    private static final String ROOM_FOR_TWO = "rider 0 0;rider 0 0;";
    private final Tally t;

    private HillEdgeTests(Tally t) {
        this.t = t;
    }

    static void run(Tally t) {
        HillEdgeTests tests = new HillEdgeTests(t);
        tests.riders();
        tests.ridersAtFirst();
        tests.told();
        tests.asked();
        tests.sledges();
        tests.newObject();
        tests.items();
        tests.itemsTaken();
        tests.itemsRefused();
        tests.blanks();
        tests.digits();
        tests.allOrNothing();
        tests.roomForAWord();
        tests.sledgesInATextAreThreeAtMost();
        tests.endsTooEarly();
        tests.firstDigit();
        tests.zerosAhead();
        tests.movesInATruth();
        tests.elementsOfATextsRow();
        tests.faultOfTheLatest();
    }

    private Sentence sentence(String words) {
        return new Sentence(t, words);
    }

    private void riders() {
        Sentence s = sentence("RIDERS have numbers, from 0 on, 4 at most");
        s.due(0, "status", 0).due(-5, "riderOf", 0, 0);
        for (int r = 0; r < 4; r++) {
            s.due(r, "rider", 0, 0).due(r + 1, "status", 0).due(0, "riderOf", r, 0).due(-5, "riderOf", r + 1, 0);
        }
        s.due(-7, "rider", 0, 0).due(4, "status", 0).due(1, "status", 17);
        s = sentence("each of a KIND: 0 .. 6");
        s.due(-1, "rider", -1, 0).due(-1, "rider", 7, 0).due(-1, "rider", Integer.MIN_VALUE, 0)
            .due(-1, "rider", Integer.MAX_VALUE, 0).due(0, "status", 0);
        s.due(0, "rider", 0, 0).due(1, "rider", 6, 0).due(0, "riderOf", 0, 0).due(6, "riderOf", 1, 0);
        s = sentence("a (0 to 9)");
        s.due(-6, "rider", 0, -1).due(-6, "rider", 0, 10).due(-6, "rider", 0, Integer.MIN_VALUE)
            .due(-6, "rider", 0, Integer.MAX_VALUE).due(0, "status", 0);
        s.due(0, "rider", 0, 0).due(1, "rider", 0, 9).due(0, "riderOf", 0, 1).due(9, "riderOf", 1, 1);
    }

    private void ridersAtFirst() {
        Sentence s = sentence("at the FOOT at first, TIRED 0, RUNS 0, WAITED 0 at first");
        s.riders(2, 9).rider(0, 0, 0, 0, 0);
        // one of that number was there before, had run, was tired and had waited
        s.call("image");
        s.riders(6, 3, 0, 0);
        s.call("sledges", 0, 3);
        s.call("tell", 1, 0, 1);
        s.call("move", 10);
        s.call("move", 400);
        s.call("tell", 1, 0, 1);
        s.call("tell", 1, 1, 50);
        s.rider(1, 1, 50, 1, 4).due(1, "restore");
        s.due(1, "rider", 4, 2).rider(1, 0, 0, 0, 0).due(4, "riderOf", 1, 0).due(2, "riderOf", 1, 1);
        s.due(0, "status", 1).due(0, "status", 8);
        s = sentence("riderOf: 0 KIND .. 5 WAITED; -5 no such one, another what");
        s.plainRiders(1).due(0, "riderOf", 0, 0).due(0, "riderOf", 0, 5).due(-5, "riderOf", 0, 6)
            .due(-5, "riderOf", 0, -1).due(-5, "riderOf", 1, 0).due(-5, "riderOf", -1, 0)
            .due(-5, "riderOf", Integer.MIN_VALUE, 0).due(-5, "riderOf", 0, Integer.MAX_VALUE).due(6, "status", 15);
    }

    private void told() {
        Sentence s = sentence("tell: where (what 0; 0, 1)").plainRiders(1);
        s.due(-6, "tell", 0, 0, -1).due(-6, "tell", 0, 0, 2).due(0, "riderOf", 0, 2);
        s.due(0, "tell", 0, 0, 1).due(1, "riderOf", 0, 2).due(-6, "tell", 0, 0, 2).due(1, "riderOf", 0, 2);
        s.due(1, "tell", 0, 0, 0).due(0, "riderOf", 0, 2);
        s = sentence("TIRED (0 to 99)").plainRiders(1);
        s.due(0, "tell", 0, 1, 99).due(-6, "tell", 0, 1, 100).due(99, "riderOf", 0, 3);
        s.due(99, "tell", 0, 1, 0).due(-6, "tell", 0, 1, -1).due(0, "riderOf", 0, 3);
        s = sentence("Another what of tell() is -6").plainRiders(1);
        s.due(-6, "tell", 0, 2, 0).due(-6, "tell", 0, -1, 0).due(-6, "tell", 0, Integer.MAX_VALUE, 0);
        s = sentence("tell: -1").plainRiders(2);
        s.due(0, "tell", 1, 1, 7).due(-1, "tell", 2, 1, 7).due(-1, "tell", -1, 1, 7).due(-1, "tell", 4, 0, 1);
        sentence("tell: -1").due(-1, "tell", 0, 0, 1);
    }

    private void asked() {
        Sentence s = sentence("MINUTES till it is DARK (0 to 999; 60 at first)");
        s.due(60, "status", 4).due(-6, "ask", 0, -1).due(-6, "ask", 0, 1000).due(60, "status", 4);
        s.due(60, "ask", 0, 999).due(999, "status", 4).due(999, "ask", 0, 0).due(0, "status", 4);
        s = sentence("PENNIES (0 to 99; 0 at first)");
        s.due(0, "status", 5).due(-6, "ask", 1, -1).due(-6, "ask", 1, 100).due(0, "status", 5);
        s.due(0, "ask", 1, 99).due(99, "status", 5).due(99, "ask", 1, 0).due(0, "status", 5);
        s = sentence("STEEP (1 to 9; 6 at first)");
        s.due(6, "status", 6).due(-6, "ask", 2, 0).due(-6, "ask", 2, 10).due(6, "status", 6);
        s.due(6, "ask", 2, 9).due(9, "status", 6).due(9, "ask", 2, 1).due(1, "status", 6);
        s = sentence("LONG (1 to 9; 3 at first)");
        s.due(3, "status", 7).due(-6, "ask", 3, 0).due(-6, "ask", 3, 10).due(3, "status", 7);
        s.due(3, "ask", 3, 9).due(9, "status", 7).due(9, "ask", 3, 1).due(1, "status", 7);
        s = sentence("ask: MINUTES (what 0), .. LONG (3); -6");
        s.due(-6, "ask", -1, 5).due(-6, "ask", 4, 5).due(-6, "ask", Integer.MIN_VALUE, 5);
        s.due(60, "status", 4).due(3, "status", 7);
    }

    private void sledges() {
        Sentence s = sentence("SLEDGES: at the FOOT (0 to 3; 1 at first), at the TOP (0 to 3; 0 at first)");
        s.due(1, "status", 2).due(0, "status", 3);
        s.due(-6, "sledges", -1, 0).due(-6, "sledges", 0, -1).due(-6, "sledges", 4, 0).due(-6, "sledges", 0, 4);
        s.due(-6, "sledges", -1, 4).due(-6, "sledges", 4, -1).due(1, "status", 2).due(0, "status", 3);
        s.due(0, "sledges", 0, 0).due(0, "status", 2);
        s.due(3, "sledges", 3, 0).due(3, "status", 2).due(0, "status", 3);
        s.due(3, "sledges", 0, 3).due(0, "status", 2).due(3, "status", 3);
        s = sentence("3 at most in all; more than 3 SLEDGES in all are -6");
        s.due(3, "sledges", 1, 2).due(3, "sledges", 2, 1).due(-6, "sledges", 2, 2).due(-6, "sledges", 3, 1)
            .due(-6, "sledges", 1, 3).due(-6, "sledges", 3, 3).due(2, "status", 2).due(1, "status", 3);
        s.due(-6, "sledges", Integer.MAX_VALUE, Integer.MAX_VALUE)
            .due(-6, "sledges", Integer.MAX_VALUE, Integer.MIN_VALUE).due(-6, "sledges", Integer.MIN_VALUE, 0);
    }

    private void newObject() {
        Sentence s = sentence("No RIDERS; one SLEDGE at the FOOT");
        s.due(0, "status", 0).due(0, "status", 1).due(1, "status", 2).due(0, "status", 3).due(0, "status", 8);
        s = sentence("SEED (1 at first)");
        s.due(1, "status", 9).due(1, "seed", 1);
        s = sentence("fault(): NONE: there was none, or none yet");
        s.due(-1, "fault").reads(1, "minutes 5").due(-1, "fault");
    }

    private void items() {
        Sentence s = sentence("ITEM, then any number of times ; and ITEM");
        s.plainRiders(1).reads(1, "top 0").due(1, "status", 1).reads(2, "foot 0;top 0");
        String most = "top 00;".repeat(5) + "top 0;".repeat(20) + "top 0";
        t.due("as many elements as a ROW can have", most.length(), 160);
        s = sentence("ITEM, then any number of times ; and ITEM").plainRiders(1);
        s.reads(26, most).due(1, "status", 1);
        s = sentence("a text of no elements has its FAULT there");
        s.faulty(0, "").due(1, "status", 16);
        s = sentence("ITEM, then any number of times ; and ITEM").plainRiders(1);
        s.faulty(0, ";").faulty(0, ";top 0").faulty(6, "top 0;").faulty(6, "top 0;;top 0").faulty(5, "top 0top 0");
    }

    private void itemsTaken() {
        Sentence s = sentence("rider K A (KIND, a)");
        s.reads(1, "rider 0 0").reads(1, "rider 6 9").due(6, "riderOf", 1, 0).due(9, "riderOf", 1, 1);
        s = sentence("top R; foot R (a RIDER)").plainRiders(4);
        s.reads(1, "top 3").due(8, "status", 1).reads(1, "top 0").due(9, "status", 1);
        s.reads(1, "foot 3").due(1, "status", 1).reads(1, "foot 0").due(0, "status", 1);
        s = sentence("sledges F T");
        s.reads(1, "sledges 0 0").due(0, "status", 2).due(0, "status", 3);
        s.reads(1, "sledges 3 0").due(3, "status", 2).due(0, "status", 3);
        s.reads(1, "sledges 0 3").due(0, "status", 2).due(3, "status", 3);
        s.reads(1, "sledges 1 2").due(1, "status", 2).due(2, "status", 3);
        s = sentence("minutes N");
        s.reads(1, "minutes 0").due(0, "status", 4).reads(1, "minutes 999").due(999, "status", 4);
        s = sentence("pennies N");
        s.reads(1, "pennies 99").due(99, "status", 5).reads(1, "pennies 0").due(0, "status", 5);
        s = sentence("hill S L (STEEP, LONG)");
        s.reads(1, "hill 1 9").due(1, "status", 6).due(9, "status", 7);
        s.reads(1, "hill 9 1").due(9, "status", 6).due(1, "status", 7);
        s = sentence("move M (in truth, if it MAY be)").plainRiders(4);
        s.reads(1, "move 700").due(55, "status", 4).reads(1, "move 323").due(12, "status", 1);
    }

    private void itemsRefused() {
        sentence("rider K A (KIND, a)").faulty(6, "rider 7 0").faulty(8, "rider 0 10").faulty(8, "rider 6 999")
            .due(0, "status", 0);
        sentence("top R; foot R (a RIDER)").plainRiders(3).faulty(4, "top 3").faulty(5, "foot 3").faulty(4, "top 999")
            .due(0, "status", 1);
        sentence("top R; foot R (a RIDER)").faulty(4, "top 0").faulty(5, "foot 0").faulty(4, "top 000");
        sentence("sledges F T").faulty(8, "sledges 4 0").faulty(10, "sledges 0 4").due(1, "status", 2);
        sentence("minutes N").faulty(11, "minutes 1000").due(60, "status", 4);
        sentence("pennies N").faulty(8, "pennies 100").faulty(8, "pennies 999").due(0, "status", 5);
        sentence("hill S L (STEEP, LONG)").faulty(5, "hill 0 1").faulty(5, "hill 10 1").faulty(7, "hill 1 0")
            .faulty(7, "hill 1 10").due(6, "status", 6).due(3, "status", 7);
        sentence("move M (in truth, if it MAY be)").plainRiders(1).faulty(5, "move 0").faulty(5, "move 701")
            .faulty(5, "move 800").faulty(5, "move 999").due(60, "status", 4);
    }

    private void blanks() {
        Sentence s = sentence("One blank between words and NUMBERS").plainRiders(1);
        s.reads(1, "top 0").faulty(3, "top0").faulty(4, "top  0").faulty(3, "top\t0").faulty(5, "top 0 ");
        s.faulty(0, " top 0").faulty(6, "top 0; top 0").faulty(5, "top 0 ;top 0");
        s = sentence("One blank between words and NUMBERS");
        s.reads(1, "hill 1 2").faulty(6, "hill 1").faulty(7, "hill 1  2").faulty(6, "hill 1;2").faulty(6, "hill 1,2");
    }

    private void digits() {
        Sentence s = sentence("NUMBERS (1 to 3 digits)");
        s.faulty(8, "minutes ").faulty(8, "minutes ;").faulty(8, "minutes x").faulty(8, "minutes -1")
            .faulty(8, "minutes +1");
        s.reads(1, "minutes 7").due(7, "status", 4).reads(1, "minutes 77").due(77, "status", 4);
        s.reads(1, "minutes 777").due(777, "status", 4).faulty(11, "minutes 7777").faulty(11, "minutes 0007");
        s.due(777, "status", 4);
        s = sentence("NUMBERS (1 to 3 digits): 0 to 9, and no other sign");
        s.reads(1, "minutes 0").reads(1, "minutes 9").faulty(8, "minutes /").faulty(8, "minutes :")
            .faulty(9, "minutes 1/").faulty(9, "minutes 1:").due(9, "status", 4);
    }

    private void allOrNothing() {
        Sentence s = sentence("All is told over what there is, or nothing").riders(0, 0, 2, 0);
        s.call("ask", 1, 5);
        s.call("seed", 9);
        s.faulty(86, "rider 1 1;top 0;sledges 1 2;minutes 30;pennies 8;hill 2 2;move 0;foot 1;move 210;move 0");
        int[] due = {2, 0, 1, 0, 60, 5, 6, 3, 0, 9};
        for (int what = 0; what < due.length; what++) {
            s.due(due[what], "status", what);
        }
        s.rider(0, 0, 0, 0, 0).rider(1, 0, 0, 0, 0).due(-5, "riderOf", 2, 0);
        s.reads(2, "top 1;pennies 6").due(2, "status", 0).due(2, "status", 1).due(6, "status", 5).due(60, "status", 4);
    }

    private void roomForAWord() {
        Sentence s = sentence("what there is no room for can't stand: its word").plainRiders(2);
        s.faulty(20, ROOM_FOR_TWO + "rider 0 0").due(2, "status", 0);
        s.reads(2, "rider 1 1;rider 2 2").due(4, "status", 0).faulty(0, "rider 0 0").faulty(6, "top 3;rider 0 0");
        s.reads(1, "top 3").due(4, "status", 0);
        s = sentence("Whether there is room for a word is asked when its letters stand whole").plainRiders(4);
        s.faulty(0, "rider").faulty(0, "riders").faulty(0, "rider;").faulty(0, "rider 9 9").faulty(0, "rider 0 0;x");
        s = sentence("until then the first element that is not as it is the FAULT, or the number of elements")
            .plainRiders(4);
        s.faulty(1, "r").faulty(4, "ride").faulty(4, "ridex").faulty(4, "ride r").faulty(1, "rx");
        s.faulty(0, "Rider 0 0");
    }

    private void sledgesInATextAreThreeAtMost() {
        Sentence s = sentence("more than 3 SLEDGES: T");
        for (int foot = 0; foot <= 3; foot++) {
            s.reads(1, "sledges " + foot + " " + (3 - foot)).faulty(10, "sledges " + foot + " " + (4 - foot));
        }
        s.due(3, "status", 2).due(0, "status", 3).faulty(12, "sledges 001 003");
    }

    private void endsTooEarly() {
        String whole = "rider 0 0;top 0;foot 0;sledges 1 1;minutes 30;pennies 20;hill 9 1;top 0;move 0";
        String item = "(rider 0 0|top 0|foot 0|sledges 1 1|minutes \\d+|pennies \\d+|hill 9 1|move 0)";
        for (int n = 0; n <= whole.length(); n++) {
            String text = whole.substring(0, n);
            Sentence s = sentence("the number of elements, if it ends too early");
            if (text.matches(item + "(;" + item + ")*")) {
                s.reads(text.split(";").length, text);
            } else {
                s.faulty(n, text);
            }
        }
    }

    private void firstDigit() {
        Sentence s = sentence("of a NUMBER that may not be the place of its first digit").plainRiders(1);
        s.faulty(6, "rider 7 0").faulty(6, "rider 07 0").faulty(6, "rider 007 0").faulty(8, "rider 0 10")
            .faulty(9, "rider 00 10").faulty(8, "rider 0 010").faulty(4, "top 1").faulty(4, "top 01")
            .faulty(4, "top 001").faulty(8, "pennies 100").faulty(17, "top 0;foot 0;top 1");
        s.faulty(8, "pennies 100x").faulty(8, "pennies 1000").faulty(5, "hill 100 1");
    }

    private void zerosAhead() {
        Sentence s = sentence("Numbers of a text may begin with 0");
        s.reads(1, "rider 006 009").due(6, "riderOf", 0, 0).due(9, "riderOf", 0, 1).reads(1, "top 000");
        s.reads(1, "sledges 001 02").due(1, "status", 2).due(2, "status", 3).reads(1, "minutes 010")
            .due(10, "status", 4).reads(1, "pennies 099").due(99, "status", 5).reads(1, "hill 09 001")
            .due(9, "status", 6).due(1, "status", 7).reads(1, "move 000").due(1, "status", 8);
    }

    private void movesInATruth() {
        Sentence s = sentence("A MOVE in a text that MAY not be is a FAULT at its first digit").riders(0, 0, 2, 0);
        s.faulty(5, "move 0").faulty(5, "move 500").faulty(5, "move 220").faulty(14, "move 200;move 210")
            .faulty(15, "minutes 5;move 200").faulty(15, "minutes 4;move 700").due(60, "status", 4);
        s.reads(2, "minutes 6;move 200").due(0, "status", 4).due(1, "status", 1).rider(0, 1, 8, 0, 0)
            .rider(1, 0, 0, 0, 6).faulty(5, "move 0");
    }

    private void elementsOfATextsRow() {
        Sentence s = sentence("Elements of a ROW of longs count by their lowest 32 bits: in a HILL");
        s.longs(1, 'm', 'o', 'v', 'e', ' ', '7', '0', '0').due(1, "hill", 1).due(55, "status", 4);
        s = sentence("A HILL is read from a ROW of letters: of shorts and ints an element is no letter of so many more");
        s.call("row", 0, 1, 5);
        s.call("row", 1, 2, 5);
        s.plainRiders(1);
        String text = "top 0";
        for (int i = 0; i < 5; i++) {
            s.call("set", 0, i, text.charAt(i) + (i == 4 ? 256 : 0));
            s.call("set", 1, i, text.charAt(i) + (i == 2 ? 65536 : 0));
        }
        s.due(-6, "hill", 0).due(4, "fault").due(-6, "hill", 1).due(2, "fault");
        s.row(2, -1, -1).due(-6, "hill", 2).due(0, "fault").row(2, 't', 'o', 'p', ' ', -1).due(-6, "hill", 2)
            .due(4, "fault");
    }

    private void faultOfTheLatest() {
        Sentence s = sentence("The FAULT of the latest hill() that came to a ROW").plainRiders(1);
        s.faulty(4, "top 1").due(-1, "hill", 8).due(4, "fault").due(-1, "hill", -1).due(4, "fault");
        s.due(1, "show", 0, 0).due(-2, "hill", 0).due(4, "fault").due(-3, "hill", 1).due(4, "fault");
        s.due(0, "day", 0).due(4, "fault").reads(1, "top 0").due(-1, "hill", 8).due(-1, "fault");
    }
}
