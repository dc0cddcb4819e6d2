/** What the tests share: answers that are due, and the end of a test. */
final class Due {
    private static int asked = 0;
    private static int wrong = 0;
    private static int sentences = 0;
    private static String sentence = "";

    private Due() {
    }

    /** The sentence of the document that is tested from here on, and where it stands. */
    static void says(String where, String words) {
        sentences++;
        sentence = where + ", \"" + words + "\": ";
    }

    static void due(String call, long got, long want) {
        asked++;
        if (got != want) {
            wrong++;
            System.out.println(sentence + call + " answered " + got + ", due is " + want);
        }
    }

    /** Answers that are due one behind the other. */
    static void row(String calls, long[] got, long... want) {
        due(calls + ": how many", got.length, want.length);
        for (int i = 0; i < Math.min(got.length, want.length); i++) {
            due(calls + ", " + i, got[i], want[i]);
        }
    }

    static void feed(OneMourner x, String text) {
        for (int i = 0; i < text.length(); i++) {
            due("feed of " + text + " at " + i, x.feed(text.charAt(i)), i + 1);
        }
    }

    /** A text that is no ISLAND, or is the island-th. */
    static void island(OneMourner x, String text, int want) {
        feed(x, text);
        due("island of " + text, x.island(), want);
        due("bytes behind island", x.count(6), 0);
    }

    static int wrong() {
        return wrong;
    }

    static void end() {
        System.out.println((sentences == 0 ? "" : sentences + " sentences, ") + asked + " answers, " + wrong
            + " not as due");
        if (wrong != 0 || asked == 0) {
            System.exit(1);
        }
    }
}
