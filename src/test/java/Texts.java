/** Puts what tests need into the ROWS of an object; each element is a call of its own. */
final class Texts {
    private Texts() {
    }

    /** A ROW of a SORT with the letters of a text in SHELF s. */
    static void put(OneSledgeForTwo x, int s, int sort, String text) {
        x.row(s, sort, text.length());
        for (int i = 0; i < text.length(); i++) {
            x.set(s, i, text.charAt(i));
        }
    }

    /** A ROW of ints in SHELF s. */
    static void put(OneSledgeForTwo x, int s, int... values) {
        x.row(s, 2, values.length);
        for (int i = 0; i < values.length; i++) {
            x.set(s, i, values[i]);
        }
    }

    static int hill(OneSledgeForTwo x, String text) {
        put(x, 7, 0, text);
        return x.hill(7);
    }

    /** An object with RIDERS of these KINDS and a's, told in turn. */
    static OneSledgeForTwo riders(int... kindsAndAs) {
        OneSledgeForTwo x = new OneSledgeForTwo();
        for (int i = 0; i + 1 < kindsAndAs.length; i += 2) {
            x.rider(kindsAndAs[i], kindsAndAs[i + 1]);
        }
        return x;
    }
}
