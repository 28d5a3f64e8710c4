import java.util.function.IntUnaryOperator;

/** The range of a parameter: both its ends are taken, and what is beside them or far from them is refused. */
final class Range {
    private Range() {
    }

    /** Tries a call, each time on what it makes for itself, by its parameter's whole range (or its ends) and outside. */
    static void test(String call, int least, int most, int error, IntUnaryOperator answer) {
        outside(call, least, most, error, answer);
        int step = Math.max(1, (most - least) / 1000);
        for (int value = least; value < most; value += step) {
            taken(call, value, answer);
        }
        taken(call, most, answer);
    }

    static void outside(String call, int least, int most, int error, IntUnaryOperator answer) {
        for (int value : new int[] {Check.MIN, -1000000, least - 1, most + 1, 1000000, Check.MAX}) {
            Check.due(call + " of " + value, answer.applyAsInt(value), error);
        }
    }

    private static void taken(String call, int value, IntUnaryOperator answer) {
        int got = answer.applyAsInt(value);
        boolean isError = got == Check.UNKNOWN || got == Check.BAD_VALUE || got == Check.FULL;
        Check.due(call + " of " + value + " is an error", isError ? 1 : 0, 0);
    }
}
