/** Promises 11 to 14: texts of orders. */
public final class TextTest {
    public static void main(String[] args) {
        type();
        clearText();
        numbers();
        dates();
        orders();
        doAllErrors();
        doAllOrders();
        doAllIsAsTheCalls();
        Check.end("TextTest");
    }

    private static void type() {
        StampDater stamp = new StampDater();
        char[] characters = {'a', ';', 0, '\n', 127, 233, (char) 0x20ac, Character.MAX_VALUE};
        for (int typed = 0; typed < 60; typed++) {
            Check.due("type", stamp.type(characters[typed % characters.length]), typed + 1);
        }
        Check.due("type the 61st", stamp.type('a'), -3);
        Check.due("length", stamp.count(12), 60);
        Check.due("no acts", stamp.count(11), 0);
        Check.due("fault of 0", stamp.fault(), 2);
    }

    private static void clearText() {
        StampDater stamp = new StampDater();
        Check.due("clearText of nothing", stamp.clearText(), 0);
        Stamps.type(stamp, "a;a");
        Check.due("clearText()", stamp.clearText(), 3);
        Check.due("length", stamp.count(12), 0);
        Check.due("fault()", stamp.fault(), 0);
        Check.due("type again", stamp.type('a'), 1);
        Check.due("fault again", stamp.fault(), -5);
        Check.due("no acts", stamp.count(11), 0);
    }

    private static void fault(String text, int want) {
        StampDater stamp = new StampDater();
        Stamps.type(stamp, text);
        Check.due("fault of \"" + text + "\"", stamp.fault(), want);
        if (want != -5) {
            Check.due("doAll of \"" + text + "\"", stamp.doAll(), -100 - want);
            Check.due("no act", stamp.count(11), 0);
        }
    }

    private static void numbers() {
        fault("p", 1);
        fault("p0", 1);
        fault("p1", -5);
        fault("p9", -5);
        fault("p10", 2);
        fault("p1x", 3);
        fault("p1x0", 3);
        fault("p1x1", -5);
        fault("p1x99", -5);
        fault("p1x01", 3);
        fault("p1x100", 5);
        fault("p1xx", 3);
        fault("p1x1x1", 4);
        fault("px1", 1);
        fault("p1X1", 2);
        fault("+", 1);
        fault("+0", 1);
        fault("+1", -5);
        fault("+01", 1);
        fault("+999", -5);
        fault("+1000", 4);
        fault("+9990", 4);
        fault("+-1", 1);
        fault("i", 1);
        fault("i0", 1);
        fault("i1", -5);
        fault("i200", -5);
        fault("i201", 3);
        fault("i20x", 3);
        fault("i210", 3);
        fault("i30", -5);
        fault("i300", 3);
        fault("i199", -5);
        fault("i1999", 4);
        fault("i21", -5);
    }

    private static void dates() {
        fault("d", 1);
        fault("d4", 1);
        fault("d3", 2);
        fault("d00", 2);
        fault("d32", 2);
        fault("d30", 3);
        fault("d312", 3);
        fault("d3100", 4);
        fault("d3102", 4);
        fault("d310", 4);
        fault("d3104", 4);
        fault("d3111", 4);
        fault("d3112", 5);
        fault("d3113", 4);
        fault("d3002", 4);
        fault("d2902", 5);
        fault("d29020", 6);
        fault("d290200", -5);
        fault("d290201", 6);
        fault("d290202", 6);
        fault("d290204", -5);
        fault("d290210", 6);
        fault("d290212", -5);
        fault("d290296", -5);
        fault("d290298", 6);
        fault("d280201", -5);
        fault("d290101", -5);
        fault("d0101000", 7);
        fault("d01 100", 3);
        fault("d01010a", 6);
    }

    private static void orders() {
        fault("", 0);
        fault(";", 0);
        fault("a", -5);
        fault("aa", 1);
        fault("a;", 2);
        fault("a;;a", 2);
        fault("a;b", 2);
        fault("a ;a", 1);
        fault(" a", 0);
        fault("A", 0);
        fault("d010100;a;p1;p2x3;+4;i5", -5);
        fault("p1;2", 3);
        fault("d0101;a", 5);
        fault("+;a", 1);
        fault("p1x;a", 3);
        fault("a;" + (char) 0, 2);
        fault("a" + (char) ('a' + 256), 1);
        fault("+" + (char) ('1' + 256), 1);
        StringBuilder longest = new StringBuilder("+1");
        while (longest.length() < 60) {
            longest.append(";a");
        }
        fault(longest.toString(), -5);
        StampDater stamp = new StampDater();
        Stamps.type(stamp, longest.toString());
        Check.due("orders", stamp.doAll(), 30);
    }

    private static void doAllErrors() {
        StampDater stamp = new StampDater();
        Check.due("doAll of nothing", stamp.doAll(), -100);
        Stamps.type(stamp, "+999;+999;+999;+999;+999;+999;+999;+999;+999;+999;+999;+999");
        for (int time = 1; time <= 3; time++) {
            Check.due("doAll", stamp.doAll(), 12);
            Check.due("today", stamp.count(0), time * 12 * 999);
        }
        String before = Stamps.stateInShort(stamp);
        Check.due("doAll beyond the last day", stamp.doAll(), -3);
        Check.same("doAll beyond the last day", Stamps.stateInShort(stamp), before);
        Stamps.type(stamp, "p1;+300;i5;a;+260;p1;+1");
        Check.due("all or none", stamp.doAll(), -3);
        Check.due("no print", stamp.count(2), 0);
        Check.due("no ink", stamp.count(1), 100);
        Stamps.type(stamp, "+300;+260;p0");
        Check.due("a fault is told first", stamp.doAll(), -111);
        Stamps.type(stamp, "+300;+260");
        Check.due("to the last day", stamp.doAll(), 2);
        Check.due("the last day", stamp.count(0), 36524);
        Stamps.type(stamp, "a;+1");
        Check.due("no more", stamp.doAll(), -3);
    }

    private static void doAllOrders() {
        StampDater stamp = new StampDater();
        Stamps.type(stamp, "d020100;+1;p5x2;a;p5;i200;i200");
        Check.due("doAll", stamp.doAll(), 7);
        Check.due("one act", stamp.count(11), 1);
        Check.due("the text stays", stamp.count(12), 30);
        Check.due("right ones", stamp.count(3), 3);
        Check.due("steps", stamp.count(6), 3);
        Check.due("ink", stamp.count(1), 200);
        Check.due("right of 1", stamp.rightOf(1), 3);
        Check.due("undo", stamp.undo(), 0);
        Check.due("the text stays", stamp.count(12), 30);
        Check.due("nothing is done", stamp.count(0) + stamp.count(2) + stamp.count(6) + stamp.count(10), 0);
        Stamps.type(stamp, "d010100;d010100");
        Check.due("an act without steps", stamp.doAll() + stamp.doAll(), 4);
        Check.due("two acts", stamp.count(11), 2);
    }

    private static void doAllIsAsTheCalls() {
        StampDater byText = new StampDater();
        Stamps.type(byText, "a;p9x12;+31;a;p7;i55;d311299;p8x2");
        Check.due("doAll", byText.doAll(), 8);
        StampDater byCalls = new StampDater();
        byCalls.adjust(0);
        byCalls.press(9, 12);
        byCalls.pass(31);
        byCalls.adjust(31);
        byCalls.press(7, 1);
        byCalls.fill(55);
        byCalls.adjust(36524);
        byCalls.press(8, 2);
        byCalls.keep();
        while (byCalls.undo() > 0) {
            byCalls.count(11);
        }
        byText.keep();
        byText.undo();
        byText.clearText();
        byText.restore();
        byCalls.restore();
        Check.same("doAll", Stamps.state(byText), Stamps.state(byCalls));
    }
}
