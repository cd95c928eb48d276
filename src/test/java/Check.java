/** Counts the answers of a test: what is not as due is printed, and ends the test with exit code 1. */
final class Check {
    static final Class<IndexOutOfBoundsException> NO_BRANCH = IndexOutOfBoundsException.class;
    static final Class<IllegalArgumentException> BAD_ARGUMENT = IllegalArgumentException.class;
    static final Class<IllegalStateException> BAD_STATE = IllegalStateException.class;

    private static int asked = 0;
    private static int wrong = 0;
    private static String sentence = "";
    private static int askedBefore = 0;

    private Check() {
    }

    /** What is asked from here on is asked for this sentence of the document, under this heading of it. */
    static void of(String heading, String quote) {
        endSentence();
        sentence = heading + ": " + quote + "\n    ";
        askedBefore = asked;
        if (Doc.isHere() && !Doc.says(heading, quote)) {
            wrong++;
            System.out.println(sentence + "does not stand in the document");
        }
    }

    private static void endSentence() {
        if (!sentence.isEmpty() && asked == askedBefore) {
            wrong++;
            System.out.println(sentence + "nothing is asked for it");
        }
    }

    static void due(String what, long got, long want) {
        due(what, Long.toString(got), Long.toString(want));
    }

    static void due(String what, boolean got, boolean want) {
        due(what, Boolean.toString(got), Boolean.toString(want));
    }

    static void due(String what, String got, String want) {
        asked++;
        if (!got.equals(want)) {
            wrong++;
            System.out.println(sentence + what + " answered " + got + ", due is " + want);
        }
    }

    static int bits(int... tasks) {
        int all = 0;
        for (int task : tasks) {
            all |= 1 << task;
        }
        return all;
    }

    /** The numbers from one to another, for loops whose calls are kept by a Run. */
    static int[] numbers(int from, int to) {
        int[] all = new int[to - from + 1];
        for (int at = 0; at < all.length; at++) {
            all[at] = from + at;
        }
        return all;
    }

    static void end() {
        endSentence();
        System.out.println(asked + " answers asked for, " + wrong + " of them not as due");
        if (wrong != 0 || asked == 0) {
            System.exit(1);
        }
    }
}
