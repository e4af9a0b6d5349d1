/** Counts the answers that are not as due, and ends a test with exit code 1 if there was one. */
final class Check {
    static final int MIN = Integer.MIN_VALUE;
    static final int MAX = Integer.MAX_VALUE;

    private static int wrong = 0;
    private static int asked = 0;
    private static int askedBefore = 0;
    private static String sentence = "";

    private Check() {
    }

    /** The document's sentence that the answers from here on hold to; each must be asked for. */
    static void sentence(String words) {
        endSentence();
        sentence = words;
        askedBefore = asked;
    }

    private static void endSentence() {
        if (!sentence.isEmpty() && asked == askedBefore) {
            wrong++;
            System.out.println("nothing was asked for: " + sentence);
        }
    }

    static void due(String call, long got, long want) {
        asked++;
        if (got != want) {
            wrong++;
            String of = sentence.isEmpty() ? "" : " [" + sentence + "]";
            System.out.println(call + " answered " + got + ", due is " + want + of);
        }
    }

    static void due(String call, boolean got, boolean want) {
        due(call, got ? 1 : 0, want ? 1 : 0);
    }

    static void due(String call, String got, String want) {
        asked++;
        if (!got.equals(want)) {
            wrong++;
            String of = sentence.isEmpty() ? "" : " [" + sentence + "]";
            System.out.println(call + " answered\n  " + got + "\ndue is\n  " + want + of);
        }
    }

    static void end() {
        endSentence();
        System.out.println(asked + " answers, " + wrong + " not as due");
        if (wrong != 0 || asked == 0) {
            System.exit(1);
        }
    }
}
