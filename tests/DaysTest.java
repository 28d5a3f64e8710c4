import java.time.LocalDate;

/** Promises 1 to 4, 18, 19 and 26: days, dates, adjusting. */
public final class DaysTest {
    private static final LocalDate FIRST = LocalDate.of(2000, 1, 1);

    public static void main(String[] args) {
        constants();
        newObject();
        pass();
        adjust();
        turn();
        date();
        day();
        stepsTo();
        Check.end("DaysTest");
    }

    private static void constants() {
        Check.due("UNKNOWN", StampDater.UNKNOWN, -1);
        Check.due("BAD_VALUE", StampDater.BAD_VALUE, -2);
        Check.due("FULL", StampDater.FULL, -3);
        Check.due("NONE", StampDater.NONE, -5);
    }

    private static void newObject() {
        StampDater stamp = new StampDater();
        int[] counts = {0, 100, 0, 0, 0, 0, 0, 0, 0, -5, 0, 0, 0, 30, 100, 40};
        for (int what = 0; what < counts.length; what++) {
            Check.due("new count(" + what + ")", stamp.count(what), counts[what]);
        }
        for (int place = 0; place < 6; place++) {
            Check.due("new band number", stamp.band(place, 0), place);
            for (int what = 1; what <= 5; what++) {
                Check.due("new band(" + place + ", " + what + ")", stamp.band(place, what), 0);
            }
            Check.due("new darkness", stamp.band(place, 6), 40 + 25 + 100);
        }
        Check.due("new even()", stamp.even(), 1.0);
        Check.due("new print(0, 0)", stamp.print(0, 0), -1);
        Check.due("new undo()", stamp.undo(), -5);
        Check.due("new restore()", stamp.restore(), -5);
    }

    private static void pass() {
        StampDater stamp = new StampDater();
        for (int days : new int[] {Check.MIN, -1, 0, 1000, Check.MAX}) {
            Check.due("pass(" + days + ")", stamp.pass(days), -2);
        }
        Check.due("history without acts", stamp.count(11), 0);
        Check.due("pass(1)", stamp.pass(1), 1);
        Check.due("the stamp stays", stamp.count(6) + stamp.band(1, 1), 0);
        int today = 1;
        while (today + 999 <= 36524) {
            today += 999;
            Check.due("pass(999)", stamp.pass(999), today);
        }
        Check.due("too many days", stamp.pass(36525 - today), -3);
        Check.due("wrong and too many", stamp.pass(1000), -2);
        Check.due("today stays", stamp.count(0), today);
        Check.due("to the last day", stamp.pass(36524 - today), 36524);
        Check.due("one more", stamp.pass(1), -3);
        Check.due("undo of the last", stamp.undo(), 3);
        Check.due("today before", stamp.count(0), today);
    }

    private static void adjust() {
        StampDater stamp = new StampDater();
        for (int day : new int[] {Check.MIN, -1, 36525, Check.MAX}) {
            Check.due("adjust(" + day + ")", stamp.adjust(day), -1);
        }
        Check.due("no act", stamp.count(11), 0);
        // 050600: five steps to 5 are as long both ways, four go back to 6
        int day = stamp.day(50600);
        Check.due("adjust to 050600", stamp.adjust(day), 9);
        Check.due("slack 5", stamp.band(1, 2), 5);
        Check.due("slack 4", stamp.band(3, 2), 4);
        Check.due("steps so far", stamp.count(6), 9);
        Check.due("shown day", stamp.count(9), day);
        Check.due("adjust again", stamp.adjust(day), 0);
        Check.due("again an act", stamp.count(11), 2);
        Check.due("the ink stays", stamp.count(1), 100);
        // from 5 to 0 it turns by five steps too
        Check.due("to 100600", stamp.adjust(stamp.day(100600)), 6);
        Check.due("slack 10", stamp.band(1, 2), 10);
        slackStaysAt99();
    }

    private static void slackStaysAt99() {
        StampDater stamp = new StampDater();
        for (int time = 0; time < 12; time++) {
            stamp.turn(1, 9);
        }
        Check.due("slack at most", stamp.band(1, 2), 99);
        Check.due("steps go on", stamp.count(6), 108);
        Check.due("digit", stamp.band(1, 1), 8);
        Check.due("adjust to 050100", stamp.adjust(4), 4);
        Check.due("slack stays", stamp.band(1, 2), 99);
        Check.due("steps", stamp.count(6), 112);
    }

    private static void turn() {
        StampDater stamp = new StampDater();
        for (int place : new int[] {Check.MIN, -1, 6, Check.MAX}) {
            Check.due("turn(" + place + ", 1)", stamp.turn(place, 1), -1);
            Check.due("turn(" + place + ", 0)", stamp.turn(place, 0), -1);
        }
        for (int steps : new int[] {Check.MIN, -10, 0, 10, Check.MAX}) {
            Check.due("turn(0, " + steps + ")", stamp.turn(0, steps), -2);
        }
        Check.due("no act", stamp.count(11) + stamp.count(6), 0);
        Check.due("turn(5, -1)", stamp.turn(5, -1), 9);
        Check.due("turn(5, 1)", stamp.turn(5, 1), 0);
        Check.due("turn(5, 9)", stamp.turn(5, 9), 9);
        Check.due("turn(5, -9)", stamp.turn(5, -9), 0);
        Check.due("turn(0, 3)", stamp.turn(0, 3), 3);
        Check.due("slack of 5", stamp.band(5, 2), 20);
        Check.due("slack of 0", stamp.band(0, 2), 3);
        Check.due("steps", stamp.count(6), 23);
        Check.due("acts", stamp.count(11), 4);
    }

    private static void date() {
        StampDater stamp = new StampDater();
        for (int day : new int[] {Check.MIN, -1, 36525, Check.MAX}) {
            Check.due("date(" + day + ", 0)", stamp.date(day, 0), -1);
            Check.due("date(" + day + ", 9)", stamp.date(day, 9), -1);
        }
        for (int what : new int[] {Check.MIN, -1, 4, Check.MAX}) {
            Check.due("date(0, " + what + ")", stamp.date(0, what), -2);
        }
        for (int day = 0; day <= 36524; day++) {
            stamp = day % 100 == 0 ? new StampDater() : stamp;
            LocalDate date = FIRST.plusDays(day);
            Check.due("day of month of " + day, stamp.date(day, 0), date.getDayOfMonth());
            Check.due("month of " + day, stamp.date(day, 1), date.getMonthValue());
            Check.due("year of " + day, stamp.date(day, 2), date.getYear() - 2000);
            Check.due("digits of " + day, stamp.date(day, 3), digits(date));
        }
    }

    private static int digits(LocalDate date) {
        return 10000 * date.getDayOfMonth() + 100 * date.getMonthValue() + date.getYear() - 2000;
    }

    private static void day() {
        StampDater stamp = new StampDater();
        for (int digits : new int[] {Check.MIN, -1, 1000000, Check.MAX}) {
            Check.due("day(" + digits + ")", stamp.day(digits), -2);
        }
        int[] days = new int[1000000];
        java.util.Arrays.fill(days, -5);
        for (int day = 0; day <= 36524; day++) {
            days[digits(FIRST.plusDays(day))] = day;
        }
        for (int digits = 0; digits < days.length; digits++) {
            stamp = digits % 500 == 0 ? new StampDater() : stamp;
            Check.due("day(" + digits + ")", stamp.day(digits), days[digits]);
        }
    }

    private static void stepsTo() {
        StampDater stamp = new StampDater();
        for (int day : new int[] {Check.MIN, -1, 36525, Check.MAX}) {
            Check.due("stepsTo(" + day + ")", stamp.stepsTo(day), -1);
        }
        stamp.turn(0, 2);
        stamp.turn(4, -4);
        int acts = stamp.count(11);
        for (int day = 0; day <= 36524; day += 331) {
            int steps = stamp.stepsTo(day);
            Check.due("stepsTo changes nothing", stamp.count(6), 6);
            Check.due("stepsTo(" + day + ")", steps, stamp.adjust(day));
            stamp.undo();
        }
        Check.due("stepsTo is no act", stamp.count(11), acts);
        // 010100 from 200060: 2 to 0, 0 to 1, 0 to 0, 0 to 1, 6 to 0, 0 to 0
        Check.due("stepsTo(0)", stamp.stepsTo(0), 2 + 1 + 1 + 4);
    }
}
