/** Compares answers with those that are due, and ends a test. */
final class Check {
    static final int UNKNOWN = -1;
    static final int BAD_VALUE = -2;
    static final int FULL = -3;
    static final int NONE = -5;
    static final int MIN = Integer.MIN_VALUE;
    static final int MAX = Integer.MAX_VALUE;

    private static int wrong = 0;
    private static String head = "";

    private Check() {
    }

    /** Sets what stands before each wrong answer from now on: the sentence that is tested. */
    static void head(String sentence) {
        head = sentence.isEmpty() ? "" : "[" + sentence + "] ";
    }

    static void due(String call, double got, double want) {
        if (got != want) {
            wrong++;
            System.out.println(head + call + " answered " + got + ", due is " + want);
        }
    }

    static void same(String call, String got, String want) {
        if (!got.equals(want)) {
            wrong++;
            System.out.println(head + call + " left " + got + ", due is " + want);
        }
    }

    static boolean sawWrong() {
        return wrong != 0;
    }

    static void end(String test) {
        System.out.println(test + (wrong == 0 ? ": all answers are as due" : ": " + wrong + " answers are not as due"));
        if (wrong != 0) {
            System.exit(1);
        }
    }
}
