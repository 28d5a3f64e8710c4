/** Stamps that tests begin with, and what they tell; each telling leaves room in the 512 calls of an object. */
final class Stamps {
    static final int LAST_DAY = 36524;

    private Stamps() {
    }

    /** A new stamp on a day, by 38 calls at most. */
    static StampDater onDay(int day) {
        StampDater stamp = new StampDater();
        for (int today = 0; today < day; today = stamp.count(0)) {
            stamp.pass(Math.min(999, day - today));
        }
        return stamp;
    }

    /** Types a text in place of the one that was. */
    static void type(StampDater stamp, String text) {
        stamp.clearText();
        for (char character : text.toCharArray()) {
            stamp.type(character);
        }
    }

    static StampDater withText(String text) {
        StampDater stamp = new StampDater();
        type(stamp, text);
        return stamp;
    }

    /** Puts new bands, that show 0, in all places. */
    static void replaceAll(StampDater stamp) {
        for (int place = 0; place < 6; place++) {
            stamp.replace(place);
        }
    }

    /** Turns the bands in all places. */
    static void turnAll(StampDater stamp, int steps) {
        for (int place = 0; place < 6; place++) {
            stamp.turn(place, steps);
        }
    }

    /** What is told of the state (neither of the history nor of the text) by some 240 calls. */
    static String state(StampDater stamp) {
        StringBuilder told = new StringBuilder(numbers(stamp));
        for (int place = 0; place < 6; place++) {
            for (int what = 0; what <= 6; what++) {
                told.append(stamp.band(place, what)).append(' ');
            }
            for (int digit = 0; digit <= 9; digit++) {
                told.append(stamp.wear(place, digit)).append(' ');
            }
        }
        return told.append(prints(stamp)).append(stamp.rightOf(0)).append(' ').append(stamp.even()).toString();
    }

    /** What is told of the prints that are known, and how many right ones their days have, by 120 calls. */
    static String prints(StampDater stamp) {
        StringBuilder told = new StringBuilder();
        for (int print = 0; print < 12; print++) {
            for (int what = 0; what <= 7; what++) {
                told.append(stamp.print(print, what)).append(' ');
            }
            told.append(stamp.rightOf(Math.max(0, stamp.print(print, 1)))).append(' ');
        }
        return told.toString();
    }

    /** What is told of the state in short, by some 60 calls. */
    static String stateInShort(StampDater stamp) {
        StringBuilder told = new StringBuilder(numbers(stamp));
        for (int place = 0; place < 6; place++) {
            for (int what = 0; what <= 5; what++) {
                told.append(stamp.band(place, what)).append(' ');
            }
        }
        for (int what = 0; what <= 5; what++) {
            told.append(stamp.print(0, what)).append(' ');
        }
        return told.append(stamp.even()).toString();
    }

    /** The counts of the state: those of the history and the text, 11 and 12, are left out. */
    private static String numbers(StampDater stamp) {
        StringBuilder numbers = new StringBuilder();
        for (int what = 0; what <= 15; what++) {
            numbers.append(what == 11 || what == 12 ? 0 : stamp.count(what)).append(' ');
        }
        return numbers.append(stamp.rightOf(stamp.count(0))).append(' ').toString();
    }

    /** The state, the text, the states of the history and the snapshot of a stamp, which is changed by it. */
    static String everything(StampDater stamp) {
        StringBuilder all = new StringBuilder(state(stamp));
        all.append(" text ").append(stamp.count(12)).append(' ').append(stamp.fault());
        all.append(" history ").append(stamp.count(11));
        for (int left = stamp.undo(); left >= 0; left = stamp.undo()) {
            all.append(" state ").append(left).append(": ").append(stamp.count(0)).append(' ').append(stamp.count(2));
            all.append(' ').append(stamp.count(6)).append(' ').append(stamp.count(1)).append(' ').append(stamp.even());
        }
        all.append(" snapshot ").append(stamp.restore()).append(": ").append(stateInShort(stamp));
        return all.append(" orders ").append(stamp.doAll()).append(": ").append(stateInShort(stamp)).toString();
    }

    /** A stamp with prints on several days, worn and loose bands, a full history, a text and a snapshot. */
    static StampDater used() {
        StampDater stamp = new StampDater();
        stamp.set(2, 9);
        stamp.adjust(0);
        stamp.press(3, 4);
        stamp.keep();
        stamp.set(1, 60);
        stamp.press(6, 1);
        stamp.pass(7);
        stamp.adjust(7);
        stamp.press(5, 3);
        type(stamp, "+30;a;p9x2;i3");
        stamp.turn(3, 3);
        return stamp;
    }
}
