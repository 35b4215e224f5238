/** Counts the calls whose answer is not the one that is due, and ends a test. */
final class Check {
    private static int looked = 0;
    private static int wrong = 0;
    private static int lookedBefore = 0;
    private static String words = "";

    private Check() {
    }

    /**
     * What is looked at from here on bears out these words of the document:
     * SentencesTest looks whether all of its words are borne out somewhere.
     */
    static void sentence(String quoted) {
        endSentence();
        words = quoted;
        lookedBefore = looked;
    }

    private static void endSentence() {
        if (!words.isEmpty()) {
            int before = looked;
            so("answers were looked at", before > lookedBefore);
        }
        words = "";
    }

    static void due(String call, long got, long want) {
        looked++;
        if (got != want) {
            wrong++;
            String where = words.isEmpty() ? "" : "\"" + words + "\": ";
            System.out.println(where + call + " answered " + got + ", due is " + want);
        }
    }

    static void so(String what, boolean so) {
        due(what, so ? 1 : 0, 1);
    }

    static void end() {
        endSentence();
        System.out.println(looked + " answers looked at, " + wrong + " not as due");
        if (wrong != 0 || looked == 0) {
            System.exit(1);
        }
    }
}
