/** Compares answers with those that are due, and ends a test. */
final class Check {
    private static int wrong = 0;

    private Check() {
    }

    static void due(String call, double got, double want) {
        if (got != want) {
            wrong++;
            System.out.println(call + " answered " + got + ", due is " + want);
        }
    }

    static boolean sawWrong() {
        return wrong != 0;
    }

    /** Types a text in place of the one that was. */
    static void type(StampDater stamp, String text) {
        stamp.clearText();
        for (char character : text.toCharArray()) {
            stamp.type(character);
        }
    }

    /** Everything that is told about the state of a stamp, and the lengths of history and text. */
    static String told(StampDater stamp) {
        StringBuilder told = new StringBuilder();
        for (int what = 0; what <= 15; what++) {
            told.append(stamp.count(what)).append(' ');
        }
        for (int place = 0; place < 6; place++) {
            for (int what = 0; what <= 6; what++) {
                told.append(stamp.band(place, what)).append(' ');
            }
            for (int digit = 0; digit <= 9; digit++) {
                told.append(stamp.wear(place, digit)).append(' ');
            }
        }
        for (int print = 0; print < 12; print++) {
            for (int what = 0; what <= 7; what++) {
                told.append(stamp.print(print, what)).append(' ');
            }
        }
        for (int day = 0; day <= 36524; day++) {
            int right = stamp.rightOf(day);
            if (right != 0) {
                told.append(day).append(':').append(right).append(' ');
            }
        }
        return told.append(stamp.even()).toString();
    }

    static void same(String call, String got, String want) {
        if (!got.equals(want)) {
            wrong++;
            System.out.println(call + " left " + got + ", due is " + want);
        }
    }

    static void end(String test) {
        System.out.println(test + (wrong == 0 ? ": all answers are as due" : ": " + wrong + " answers are not as due"));
        if (wrong != 0) {
            System.exit(1);
        }
    }
}
