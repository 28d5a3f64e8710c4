/** Promises 15 to 17 and 24: history, snapshot, counts. */
public final class HistoryTest {
    private static final int MIN = Integer.MIN_VALUE;
    private static final int MAX = Integer.MAX_VALUE;

    public static void main(String[] args) {
        undo();
        undoBringsAllBack();
        keepAndRestore();
        nothingChangesByErrors();
        tellingChangesNothing();
        count();
        Check.end("HistoryTest");
    }

    private static void undo() {
        StampDater stamp = new StampDater();
        Check.due("undo of nothing", stamp.undo(), -5);
        for (int time = 1; time <= 6; time++) {
            stamp.pass(time);
            Check.due("states", stamp.count(11), Math.min(4, time));
        }
        int[] today = {15, 10, 6, 3};
        for (int time = 0; time < 4; time++) {
            Check.due("undo", stamp.undo(), 3 - time);
            Check.due("today", stamp.count(0), today[time]);
        }
        Check.due("no more", stamp.undo(), -5);
        Check.due("today stays", stamp.count(0), 3);
        stamp.pass(1);
        stamp.undo();
        stamp.pass(2);
        Check.due("undo of another", stamp.undo(), 0);
        Check.due("today again", stamp.count(0), 3);
    }

    private static void act(StampDater stamp, int which) {
        switch (which) {
            case 0 -> stamp.pass(40);
            case 1 -> stamp.adjust(40);
            case 2 -> stamp.turn(3, -8);
            case 3 -> stamp.press(8, 13);
            case 4 -> stamp.fill(30);
            case 5 -> stamp.exchange(0, 5);
            case 6 -> stamp.tighten(3);
            case 7 -> stamp.replace(1);
            case 8 -> stamp.set(2, 5);
            case 9 -> stamp.doAll();
            default -> stamp.restore();
        }
    }

    private static StampDater used() {
        StampDater stamp = new StampDater();
        stamp.set(2, 9);
        stamp.adjust(0);
        stamp.press(3, 4);
        stamp.keep();
        stamp.set(1, 60);
        stamp.press(6, 1);
        stamp.pass(7);
        stamp.adjust(7);
        stamp.press(5, 3);
        stamp.turn(3, 9);
        stamp.undo();
        stamp.turn(3, 4);
        Check.type(stamp, "+30;a;p9x20;i3");
        stamp.undo();
        stamp.turn(3, 3);
        return stamp;
    }

    private static void undoBringsAllBack() {
        for (int which = 0; which <= 10; which++) {
            StampDater stamp = used();
            int states = stamp.count(11);
            stamp.undo();
            stamp.turn(3, 3);
            String before = Check.told(stamp);
            stamp.undo();
            stamp.turn(3, 3);
            act(stamp, which);
            Check.due("act " + which + " records", stamp.count(11), Math.min(4, states + 1));
            Check.due("undo of act " + which, stamp.undo(), 3);
            Check.same("undo of act " + which, Check.told(stamp).replaceFirst(" 3 14 ", " 4 14 "), before);
        }
    }

    private static void keepAndRestore() {
        StampDater stamp = new StampDater();
        Check.due("restore of nothing", stamp.restore(), -5);
        Check.due("no act", stamp.count(11), 0);
        stamp.pass(9);
        stamp.adjust(9);
        stamp.press(4, 2);
        Check.due("keep()", stamp.keep(), 9);
        Check.due("keep is no act", stamp.count(11), 3);
        Check.type(stamp, "a;p1");
        stamp.pass(1);
        stamp.set(0, 11);
        stamp.doAll();
        Check.due("restore()", stamp.restore(), 9);
        Check.due("right days", stamp.count(10), 1);
        Check.due("right prints", stamp.rightOf(9), 2);
        Check.due("setting", stamp.count(13), 30);
        Check.due("the text stays", stamp.count(12), 4);
        Check.due("an act", stamp.count(11), 4);
        stamp.undo();
        Check.due("what was before it", stamp.count(0), 10);
        Check.due("what was before it", stamp.rightOf(10), 1);
        Check.due("the snapshot stays", stamp.restore(), 9);
        stamp.press(4, 1);
        Check.due("restore again", stamp.restore(), 9);
        Check.due("unchanged by what came", stamp.count(2), 2);
        stamp.pass(1);
        Check.due("another snapshot", stamp.keep(), 10);
        stamp.pass(1);
        stamp.undo();
        stamp.undo();
        Check.due("undo leaves it", stamp.restore(), 10);
    }

    private static void nothingChangesByErrors() {
        StampDater stamp = used();
        String before = Check.told(stamp);
        stamp.pass(0);
        stamp.adjust(36525);
        stamp.turn(6, 1);
        stamp.turn(1, 0);
        stamp.press(0, 1);
        stamp.press(1, 0);
        stamp.fill(0);
        stamp.exchange(1, 1);
        stamp.exchange(1, 6);
        stamp.tighten(6);
        stamp.replace(-1);
        stamp.set(0, 30);
        stamp.set(0, 61);
        stamp.set(3, 50);
        stamp.lasts(0, 1);
        stamp.bestExchange(1, 0);
        Check.same("errors", Check.told(stamp), before);
    }

    private static void tellingChangesNothing() {
        StampDater stamp = used();
        String before = Check.told(stamp);
        stamp.date(5, 3);
        stamp.day(10100);
        stamp.stepsTo(77);
        stamp.leastPress();
        stamp.lasts(9, 20);
        stamp.lasts(4, 1);
        stamp.bestExchange(4, 2);
        stamp.fault();
        stamp.keep();
        Check.same("telling", Check.told(stamp), before);
    }

    private static void count() {
        StampDater stamp = new StampDater();
        for (int what : new int[] {MIN, -1, 16, MAX}) {
            Check.due("count(" + what + ")", stamp.count(what), -2);
        }
        stamp.pass(365);
        // 311200 in seven steps; behind it the bands in the places 0, 1 and 3 have slack of 2 and more
        stamp.adjust(365);
        stamp.press(9, 2);
        stamp.set(0, 31);
        stamp.set(1, 101);
        stamp.set(2, 2);
        stamp.turn(1, 2);
        Check.type(stamp, "abc");
        stamp.press(9, 1);
        int[] counts = {365, 100 - 27, 3, 2, 0, 0, 9, 3, 0, -5, 1, 4, 3, 31, 101, 2};
        for (int what = 0; what < counts.length; what++) {
            Check.due("count(" + what + ")", stamp.count(what), counts[what]);
        }
        stamp.adjust(364);
        Check.due("not today", stamp.count(8), 0);
        Check.due("yesterday", stamp.count(9), 364);
        stamp.adjust(365);
        Check.due("today", stamp.count(8), 1);
        Check.due("today", stamp.count(9), 365);
    }
}
