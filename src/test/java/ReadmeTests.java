import java.util.regex.Matcher;
import java.util.regex.Pattern;

/** The examples of README.md: each call on x with the number that stands behind it. */
final class ReadmeTests {
    private static final Pattern BLOCK = Pattern.compile("```java\n(.*?)```", Pattern.DOTALL);
    private static final Pattern CALL = Pattern.compile("x\\.(\\w+)\\(([^()]*)\\);\\s+// (-?\\d+)\\b.*");
    private static final Pattern TEXT = Pattern.compile("put\\(x, (\\d), \"([^\"]*)\"\\);");
    private static final Pattern VALUES = Pattern.compile("put\\(x, (\\d), ([-\\d, ]+)\\);");
    private static final String MADE = "OneSledgeForTwo x = new OneSledgeForTwo();";

    private ReadmeTests() {
    }

    static void run(Tally t, String readme) {
        int examples = 0;
        Matcher block = BLOCK.matcher(readme);
        while (block.find()) {
            if (block.group(1).startsWith(MADE)) {
                example(t, block.group(1).split("\n"));
                examples++;
            }
        }
        t.due("README: examples", examples, 4);
    }

    private static void example(Tally t, String[] lines) {
        OneSledgeForTwo x = new OneSledgeForTwo();
        for (int i = 1; i < lines.length; i++) {
            Matcher call = CALL.matcher(lines[i]);
            Matcher text = TEXT.matcher(lines[i]);
            Matcher values = VALUES.matcher(lines[i]);
            if (call.matches()) {
                long want = Long.parseLong(call.group(3));
                t.due("README: " + lines[i], Call.of(call.group(1), longs(call.group(2))).of(x), want);
            } else if (text.matches()) {
                Texts.put(x, Integer.parseInt(text.group(1)), 0, text.group(2));
            } else if (values.matches()) {
                Texts.put(x, Integer.parseInt(values.group(1)), ints(values.group(2)));
            } else {
                t.holds("README: a line that can be run: " + lines[i], false);
            }
        }
    }

    private static long[] longs(String told) {
        String[] numbers = told.isEmpty() ? new String[0] : told.split(", ");
        long[] all = new long[numbers.length];
        for (int i = 0; i < numbers.length; i++) {
            all[i] = Long.parseLong(numbers[i]);
        }
        return all;
    }

    private static int[] ints(String told) {
        long[] from = longs(told);
        int[] all = new int[from.length];
        for (int i = 0; i < from.length; i++) {
            all[i] = (int) from[i];
        }
        return all;
    }
}
