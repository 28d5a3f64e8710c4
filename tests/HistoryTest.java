/** Promises 15 to 17 and 24: history, snapshot, counts. */
public final class HistoryTest {
    public static void main(String[] args) {
        keepAndRestore();
        tellingChangesNothing();
        count();
        Check.end("HistoryTest");
    }

    private static void keepAndRestore() {
        StampDater stamp = new StampDater();
        Check.due("restore of nothing", stamp.restore(), -5);
        Check.due("no act", stamp.count(11), 0);
        stamp.pass(9);
        stamp.adjust(9);
        stamp.press(4, 2);
        Check.due("keep()", stamp.keep(), 9);
        Check.due("keep is no act", stamp.count(11), 3);
        Stamps.type(stamp, "a;p1");
        stamp.pass(1);
        stamp.set(0, 11);
        stamp.doAll();
        Check.due("restore()", stamp.restore(), 9);
        Check.due("right days", stamp.count(10), 1);
        Check.due("right prints", stamp.rightOf(9), 2);
        Check.due("setting", stamp.count(13), 30);
        Check.due("the text stays", stamp.count(12), 4);
        Check.due("an act", stamp.count(11), 4);
        stamp.undo();
        Check.due("what was before it", stamp.count(0), 10);
        Check.due("what was before it", stamp.rightOf(10), 1);
        Check.due("the snapshot stays", stamp.restore(), 9);
        stamp.press(4, 1);
        Check.due("restore again", stamp.restore(), 9);
        Check.due("unchanged by what came", stamp.count(2), 2);
        stamp.pass(1);
        Check.due("another snapshot", stamp.keep(), 10);
        stamp.pass(1);
        stamp.undo();
        stamp.undo();
        Check.due("undo leaves it", stamp.restore(), 10);
    }

    private static void tellingChangesNothing() {
        StampDater stamp = Stamps.used();
        stamp.date(5, 3);
        stamp.day(10100);
        stamp.stepsTo(77);
        stamp.leastPress();
        stamp.lasts(9, 20);
        stamp.lasts(4, 1);
        stamp.bestExchange(4, 2);
        stamp.fault();
        Check.same("telling", Stamps.everything(stamp), Stamps.everything(Stamps.used()));
    }

    private static void count() {
        StampDater stamp = new StampDater();
        for (int what : new int[] {Check.MIN, -1, 16, Check.MAX}) {
            Check.due("count(" + what + ")", stamp.count(what), -2);
        }
        stamp.pass(365);
        // 311200 in seven steps; behind it the bands in the places 0, 1 and 3 have slack of 2 and more
        stamp.adjust(365);
        stamp.press(9, 2);
        stamp.set(0, 31);
        stamp.set(1, 101);
        stamp.set(2, 2);
        stamp.turn(1, 2);
        Stamps.type(stamp, "abc");
        stamp.press(9, 1);
        int[] counts = {365, 100 - 27, 3, 2, 0, 0, 9, 3, 0, -5, 1, 4, 3, 31, 101, 2};
        for (int what = 0; what < counts.length; what++) {
            Check.due("count(" + what + ")", stamp.count(what), counts[what]);
        }
        stamp.adjust(364);
        Check.due("not today", stamp.count(8), 0);
        Check.due("yesterday", stamp.count(9), 364);
        stamp.adjust(365);
        Check.due("today", stamp.count(8), 1);
        Check.due("today", stamp.count(9), 365);
    }
}
