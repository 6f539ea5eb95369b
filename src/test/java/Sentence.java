/** One sentence of the document, tried on a new object: each call with the answer that is due. */
final class Sentence {
    private static final int MOST_CALLS = 512;
    private final Tally t;
    private final String words;
    private final OneSledgeForTwo x = new OneSledgeForTwo();
    private int calls;

    Sentence(Tally t, String words) {
        this.t = t;
        this.words = words;
    }

    /** RIDERS of these KINDS and a's, told in turn. */
    Sentence riders(int... kindsAndAs) {
        for (int i = 0; i + 1 < kindsAndAs.length; i += 2) {
            call("rider", kindsAndAs[i], kindsAndAs[i + 1]);
        }
        return this;
    }

    /** So many RIDERS of KIND 0, a 0. */
    Sentence plainRiders(int count) {
        return riders(new int[2 * count]);
    }

    long call(String name, long... args) {
        calls++;
        t.holds("'" + words + "': no more calls than an object is used for", calls <= MOST_CALLS);
        return Call.of(name, args).of(x);
    }

    Sentence due(long want, String name, long... args) {
        t.due("'" + words + "': " + Call.of(name, args).told(), call(name, args), want);
        return this;
    }

    /** Of a RIDER: where, TIRED, RUNS, WAITED. */
    Sentence rider(int r, int where, int tired, int runs, int waited) {
        return due(where, "riderOf", r, 2).due(tired, "riderOf", r, 3).due(runs, "riderOf", r, 4)
            .due(waited, "riderOf", r, 5);
    }

    /** A ROW of ints in SHELF s. */
    Sentence row(int s, int... values) {
        call("row", s, 2, values.length);
        for (int i = 0; i < values.length; i++) {
            call("set", s, i, values[i]);
        }
        return this;
    }

    /** A ROW of longs in SHELF s, each with other bits above its lowest 32. */
    Sentence longs(int s, int... values) {
        call("row", s, 3, values.length);
        for (int i = 0; i < values.length; i++) {
            call("set", s, i, (long) (i + 1) << 32 | values[i] & 0xffffffffL);
        }
        return this;
    }

    private void letters(String text) {
        call("row", 7, 0, text.length());
        for (int i = 0; i < text.length(); i++) {
            call("set", 7, i, text.charAt(i));
        }
    }

    /** A text of so many ITEMS, without a FAULT. */
    Sentence reads(int items, String text) {
        letters(text);
        t.due("'" + words + "': hill '" + text + "'", call("hill", 7), items);
        t.due("'" + words + "': fault '" + text + "'", call("fault"), -1);
        return this;
    }

    /** A text with its FAULT. */
    Sentence faulty(int fault, String text) {
        letters(text);
        t.due("'" + words + "': hill '" + text + "'", call("hill", 7), -6);
        t.due("'" + words + "': fault '" + text + "'", call("fault"), fault);
        return this;
    }
}
