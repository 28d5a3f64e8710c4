import java.io.IOException;
import java.time.LocalDate;

/** The sentences of the promises 18 to 29 that name an edge; a test for each. */
public final class EdgesOfTellingTest {
    public static void main(String[] args) throws IOException {
        Sentences telling = new Sentences("EdgesOfTellingTest");
        dates(telling);
        bands(telling);
        prints(telling);
        rightOf(telling);
        count(telling);
        even(telling);
        stepsTo(telling);
        leastPress(telling);
        lasts(telling);
        bestExchange(telling);
        telling.end();
    }

    // ---- date, day

    private static void dates(Sentences telling) {
        telling.test("- `day`: 0 to 36524", "date", () ->
                Range.test("date", 0, Stamps.LAST_DAY, Check.UNKNOWN, day -> new StampDater().date(day, 3)));
        telling.test("0 for the day of the month, 1 for the month (1 to 12), 2 for the year, 3 for all six digits as one number",
                () -> {
            StampDater stamp = new StampDater();
            int[][] dates = {{0, 1, 1, 0, 10100}, {59, 29, 2, 0, 290200}, {365, 31, 12, 0, 311200}, {366, 1, 1, 1, 10101},
                {36524, 31, 12, 99, 311299}};
            for (int[] date : dates) {
                for (int what = 0; what <= 3; what++) {
                    Check.due("date(" + date[0] + ", " + what + ")", stamp.date(date[0], what), date[1 + what]);
                }
            }
        });
        telling.test("- `what`: 0 for the day of the month", () ->
                Range.test("date's what", 0, 3, Check.BAD_VALUE, what -> new StampDater().date(5, what)));
        telling.test("Returns the number; UNKNOWN (day); BAD_VALUE.", () -> {
            for (int what : new int[] {Check.MIN, -1, 4, Check.MAX}) {
                Range.outside("date's day, what " + what, 0, Stamps.LAST_DAY, Check.UNKNOWN,
                        day -> new StampDater().date(day, what));
            }
        });
        telling.test("Returns the day; BAD_VALUE if digits is not 0 to 999999; NONE if there is no such date.", () -> {
            StampDater stamp = new StampDater();
            Range.outside("day", 0, 999999, Check.BAD_VALUE, digits -> new StampDater().day(digits));
            int[] none = {0, 99, 100, 10000, 11300, 310400, 300200, 290201, 320100, 990100, 999999};
            for (int digits : none) {
                Check.due("day(" + digits + ")", stamp.day(digits), Check.NONE);
            }
            Check.due("the first", stamp.day(10100), 0);
            Check.due("the last", stamp.day(311299), Stamps.LAST_DAY);
            Check.due("a 29th of February", stamp.day(290200), 59);
            Check.due("the last 29th of February", stamp.day(290296), stamp.day(10396) - 1);
        });
    }

    // ---- band, wear

    private static void bands(Sentences telling) {
        telling.test("0 for the number of its band, 1 for the digit that it shows, 2 for the slack, 3 for the greatest wear of "
                + "its digits, 4 for the least", EdgesOfTellingTest::whatABandIs);
        telling.test("5 for the digit with the greatest wear, of several the lowest", EdgesOfTellingTest::mostWornDigit);
        telling.test("6 for the darkness with which it would print now with the strength 5, and 100", () -> {
            StampDater stamp = new StampDater();
            Check.due("at first", stamp.band(5, 6), 100 + 40 + 25);
            stamp.fill(200);
            Check.due("the greatest", stamp.band(5, 6), 100 + 40 + 50);
            stamp.press(9, 99);
            Check.due("the least", stamp.band(5, 6), 100 + 40 - 99);
            stamp.fill(3);
            Check.due("a quarter rounded down to 0", stamp.band(5, 6), 100 + 40 - 99);
            stamp.fill(1);
            Check.due("a quarter", stamp.band(5, 6), 100 + 40 + 1 - 99);
            stamp.turn(5, 1);
            Check.due("another digit", stamp.band(5, 6), 100 + 40 + 1);
        });
        telling.test("- `place`: 0 to 5", "band", () ->
                Range.test("band's place", 0, 5, Check.UNKNOWN, place -> new StampDater().band(place, 0)));
        telling.test("- `what`: 0 for the number of its band", () ->
                Range.test("band's what", 0, 6, Check.BAD_VALUE, what -> new StampDater().band(3, what)));
        telling.test("Returns the number; UNKNOWN; BAD_VALUE.", "band", () -> {
            for (int what : new int[] {Check.MIN, -1, 7, Check.MAX}) {
                Range.outside("band's place, what " + what, 0, 5, Check.UNKNOWN, place -> new StampDater().band(place, what));
            }
        });
        telling.test("- `place`: 0 to 5", "wear", () ->
                Range.test("wear's place", 0, 5, Check.UNKNOWN, place -> new StampDater().wear(place, 0)));
        telling.test("- `digit`: 0 to 9", () ->
                Range.test("wear's digit", 0, 9, Check.BAD_VALUE, digit -> new StampDater().wear(3, digit)));
        telling.test("Returns the wear in the band in this place; UNKNOWN (place); BAD_VALUE.", () -> {
            for (int digit : new int[] {Check.MIN, -1, 10, Check.MAX}) {
                Range.outside("wear's place, digit " + digit, 0, 5, Check.UNKNOWN, place -> new StampDater().wear(place, digit));
            }
            StampDater stamp = new StampDater();
            stamp.turn(5, 9);
            stamp.press(4, 1);
            Check.due("the last digit in the last place", stamp.wear(5, 9), 2);
            stamp.exchange(5, 0);
            Check.due("of the band that is there now", stamp.wear(0, 9), 2);
            Check.due("and not of the one that was", stamp.wear(5, 9), 0);
            Check.due("the first digit", stamp.wear(5, 0), 2);
        });
    }

    private static void whatABandIs() {
        StampDater stamp = new StampDater();
        stamp.exchange(1, 2);
        for (int digit = 0; digit <= 9; digit++) {
            stamp.press(1, 3 + (digit == 7 ? 4 : 0) - (digit == 4 ? 2 : 0));
            Check.due("the least wear while digits are new", stamp.band(1, 4), digit < 9 ? 0 : 1);
            stamp.turn(1, 1);
        }
        stamp.turn(1, -2);
        int[] due = {2, 8, 12, 7, 1};
        for (int what = 0; what < due.length; what++) {
            Check.due("band(1, " + what + ")", stamp.band(1, what), due[what]);
        }
    }

    private static void mostWornDigit() {
        Check.due("all ten are new", new StampDater().band(0, 5), 0);
        for (int lower = 0; lower <= 8; lower++) {
            for (int higher = lower + 1; higher <= 9; higher++) {
                StampDater stamp = new StampDater();
                stamp.turn(2, higher);
                stamp.press(1, 2);
                Check.due("one", stamp.band(2, 5), higher);
                stamp.turn(2, lower - higher);
                stamp.press(1, 1);
                Check.due("the higher one is worn more", stamp.band(2, 5), higher);
                stamp.press(1, 1);
                Check.due("both are worn alike", stamp.band(2, 5), lower);
                stamp.press(1, 1);
                Check.due("the lower one is worn more", stamp.band(2, 5), lower);
            }
        }
    }

    // ---- print

    /** A stamp that has printed six digits, those in some places faint. */
    private static StampDater withFaint(int digits, int places) {
        StampDater stamp = new StampDater();
        show(stamp, digits, 63);
        stamp.press(1, 20);
        for (int place = 0; place < 6; place++) {
            if ((places >> place & 1) == 0) {
                stamp.replace(place);
            }
        }
        show(stamp, digits, 63 - places);
        stamp.fill(200);
        stamp.set(0, 40);
        // 8 + 50 - 20 is faint, 8 + 50 is not
        stamp.press(1, 1);
        Check.due("digits", stamp.print(0, 0), digits);
        Check.due("faint places", stamp.print(0, 2), places);
        return stamp;
    }

    private static void show(StampDater stamp, int digits, int places) {
        int rest = digits;
        for (int place = 5; place >= 0; place--) {
            if ((places >> place & 1) != 0) {
                stamp.turn(place, rest % 10);
            }
            rest /= 10;
        }
    }

    private static void prints(Sentences telling) {
        telling.test("- `print`: 0 for the latest one, to 11", () -> {
            StampDater stamp = new StampDater();
            stamp.press(1, 99);
            Range.test("print", 0, 11, Check.UNKNOWN, print -> stamp.print(print, 0));
            stamp.turn(5, 4);
            stamp.press(2, 1);
            Check.due("the latest", stamp.print(0, 0), 4);
            Check.due("the one before", stamp.print(1, 0), 0);
        });
        telling.test("0 for its six digits as one number, 1 for the day of today when it was printed", () -> {
            StampDater stamp = new StampDater();
            stamp.press(1, 1);
            Check.due("no digit but 0", stamp.print(0, 0), 0);
            stamp.pass(999);
            Stamps.turnAll(stamp, 9);
            stamp.press(1, 2);
            stamp.pass(1);
            Check.due("each digit 9", stamp.print(0, 0), 999999);
            Check.due("the day that was", stamp.print(0, 1), 999);
            Check.due("of the one before too", stamp.print(1, 1), 999);
            Check.due("the first day", stamp.print(2, 1), 0);
        });
        telling.test("2 for the places whose digits are faint, as a set of bits, 3 for those that are smudged", () -> {
            for (int places = 0; places <= 63; places++) {
                StampDater stamp = withFaint(123456, places);
                Check.due("none smudged", stamp.print(0, 3), 0);
                stamp.set(1, 60);
                stamp.set(0, 10);
                stamp.fill(1);
                // 16 + 50 - 1 is smudged, 16 + 50 - 21 is not
                stamp.press(2, 1);
                Check.due("smudged", stamp.print(0, 3), 63 - places);
                Check.due("none faint", stamp.print(0, 2), 0);
                stamp.set(1, 150);
                stamp.press(2, 1);
                Check.due("none smudged behind it", stamp.print(0, 3), 0);
                Check.due("as it was", stamp.print(1, 3), 63 - places);
            }
        });
        telling.test("4 for whether it is right (1, otherwise 0), 5 for its strength", () -> {
            StampDater stamp = new StampDater();
            stamp.adjust(0);
            for (int strength = 1; strength <= 9; strength++) {
                int right = stamp.press(strength, 1);
                Check.due("right by " + strength, stamp.print(0, 4), right);
                Check.due("strength " + strength, stamp.print(0, 5), strength);
            }
            stamp.pass(1);
            stamp.press(5, 1);
            Check.due("not of today", stamp.print(0, 4), 0);
            Check.due("not of the day 0, but printed before", stamp.print(1, 4), 1);
        });
        telling.test("6 for how many days agree with all its clear digits, 7 for the first such day (NONE without any)",
                EdgesOfTellingTest::agreeingDays);
        telling.test("- `what`: 0 for its six digits as one number", () -> {
            StampDater stamp = new StampDater();
            stamp.press(1, 1);
            Range.test("print's what", 0, 7, Check.BAD_VALUE, what -> stamp.print(0, what));
        });
        telling.test("Returns the number; UNKNOWN if there is no such print; BAD_VALUE.", () -> {
            StampDater stamp = new StampDater();
            Check.due("no print at first", stamp.print(0, 0), Check.UNKNOWN);
            Check.due("no print, no such what", stamp.print(0, 8), Check.UNKNOWN);
            stamp.press(1, 1);
            Check.due("one", stamp.print(0, 5), 1);
            Check.due("no second", stamp.print(1, 5), Check.UNKNOWN);
            Check.due("no second, no such what", stamp.print(1, -1), Check.UNKNOWN);
            Check.due("one, no such what", stamp.print(0, 8), Check.BAD_VALUE);
            Range.outside("print, no such what", 0, 11, Check.UNKNOWN, print -> stamp.print(print, 8));
            stamp.undo();
            Check.due("none behind undo", stamp.print(0, 0), Check.UNKNOWN);
        });
    }

    private static void agreeingDays() {
        agree(withFaint(0, 0), 0, Check.NONE);
        agree(withFaint(0, 63), 36525, 0);
        agree(withFaint(311299, 0), 1, 36524);
        agree(withFaint(10100, 0), 1, 0);
        agree(withFaint(290201, 0), 0, Check.NONE);
        agree(withFaint(290201, 16), 0, Check.NONE);
        agree(withFaint(290201, 32), 3, 59);
        agree(withFaint(290201, 48), 25, 59);
        StampDater stamp = new StampDater();
        agree(withFaint(290210, 32), 2, stamp.day(290212));
        agree(withFaint(290202, 16), 5, stamp.day(290212));
        agree(withFaint(290299, 32), 2, stamp.day(290292));
        agree(withFaint(300200, 48), 0, Check.NONE);
        agree(withFaint(990000, 15), 366, 0);
        agree(withFaint(990099, 15), 365, 36524 - 364);
        int[] dates = datesOfAllDays();
        for (int digits : new int[] {290200, 310499, 121257, 300230, 990911, 71308, 310000, 319999}) {
            for (int places = 0; places <= 63; places++) {
                agreeAsCounted(dates, digits, places);
            }
        }
    }

    private static void agree(StampDater stamp, int days, int first) {
        String print = stamp.print(0, 0) + " with faint " + stamp.print(0, 2);
        Check.due("days that agree with " + print, stamp.print(0, 6), days);
        Check.due("the first that agrees with " + print, stamp.print(0, 7), first);
    }

    private static int[] datesOfAllDays() {
        int[] dates = new int[Stamps.LAST_DAY + 1];
        LocalDate date = LocalDate.of(2000, 1, 1);
        for (int day = 0; day < dates.length; day++) {
            dates[day] = 10000 * date.getDayOfMonth() + 100 * date.getMonthValue() + date.getYear() - 2000;
            date = date.plusDays(1);
        }
        return dates;
    }

    private static void agreeAsCounted(int[] dates, int digits, int faint) {
        int days = 0;
        int first = Check.NONE;
        for (int day = dates.length - 1; day >= 0; day--) {
            boolean agrees = true;
            int weight = 100000;
            for (int place = 0; place < 6; place++) {
                boolean isClear = (faint >> place & 1) == 0;
                agrees &= !isClear || dates[day] / weight % 10 == digits / weight % 10;
                weight /= 10;
            }
            days += agrees ? 1 : 0;
            first = agrees ? day : first;
        }
        agree(withFaint(digits, faint), days, first);
    }

    // ---- rightOf, count, even

    private static void rightOf(Sentences telling) {
        telling.test("Tells how many right prints a day has, also those that are not known any more.", () -> {
            StampDater stamp = new StampDater();
            stamp.fill(100);
            stamp.set(0, 10);
            stamp.adjust(0);
            stamp.press(1, 13);
            Check.due("one more than are known", stamp.rightOf(0), 13);
            stamp.pass(1);
            stamp.press(1, 12);
            Check.due("all that are known are of another day", stamp.rightOf(0), 13);
            Check.due("not right ones do not count", stamp.rightOf(1), 0);
            stamp.adjust(1);
            stamp.press(1, 2);
            stamp.press(2, 1);
            Check.due("of two calls", stamp.rightOf(1), 3);
            Check.due("the next day", stamp.rightOf(2), 0);
        });
        telling.test("- `day`: 0 to 36524", "rightOf", () ->
                Range.test("rightOf", 0, Stamps.LAST_DAY, Check.UNKNOWN, day -> new StampDater().rightOf(day)));
        telling.test("Returns how many; UNKNOWN.", "rightOf", () -> {
            Check.due("a day that there is not", new StampDater().rightOf(36525), Check.UNKNOWN);
            Check.due("none at first", new StampDater().rightOf(0), 0);
            StampDater last = Stamps.onDay(Stamps.LAST_DAY);
            last.adjust(Stamps.LAST_DAY);
            last.press(1, 2);
            Check.due("the last day", last.rightOf(Stamps.LAST_DAY), 2);
            Check.due("the day before", last.rightOf(Stamps.LAST_DAY - 1), 0);
        });
    }

    private static void count(Sentences telling) {
        telling.test("2 for prints so far, 3 for right ones, 4 for faint digits so far, 5 for smudged ones", () -> {
            StampDater stamp = withFaint(311299, 5);
            Check.due("prints, also those not known", stamp.count(2), 21);
            Check.due("none is right", stamp.count(3), 0);
            // of the first 20 prints all digits are faint, once 8 + 25 - wear is less than 30
            Check.due("faint digits", stamp.count(4), 17 * 6 + 2);
            Check.due("smudged digits", stamp.count(5), 0);
            stamp.set(1, 60);
            stamp.press(2, 1);
            Check.due("four smudged digits", stamp.count(5), 4);
            Check.due("no more faint ones", stamp.count(4), 17 * 6 + 2);
        });
        telling.test("6 for steps so far, 7 for slips so far", () -> {
            StampDater stamp = new StampDater();
            stamp.set(2, 1);
            stamp.turn(0, -9);
            stamp.press(7, 1);
            stamp.adjust(0);
            stamp.press(7, 3);
            stamp.replace(0);
            stamp.tighten(1);
            Check.due("steps", stamp.count(6), 9 + 2 + 1 + 1);
            Check.due("slips", stamp.count(7), 1 + 3);
        });
        telling.test("8 for whether the stamp shows the date of today (1, otherwise 0), 9 for the day that it shows (NONE if it "
                + "shows no date)", EdgesOfTellingTest::shownDay);
        telling.test("10 for days with right prints, 11 for the states in the history, 12 for the length of the text, 13 to 15 "
                + "for the settings", () -> {
            StampDater stamp = new StampDater();
            stamp.adjust(0);
            stamp.press(1, 1);
            stamp.press(1, 1);
            Check.due("one day", stamp.count(10), 1);
            stamp.pass(1);
            stamp.press(1, 1);
            Check.due("a day without right ones", stamp.count(10), 1);
            stamp.adjust(1);
            stamp.press(3, 1);
            Check.due("two days", stamp.count(10), 2);
            Check.due("states", stamp.count(11), 4);
            stamp.type('?');
            Check.due("length", stamp.count(12), 1);
            stamp.set(0, 31);
            stamp.set(1, 101);
            stamp.set(2, 41);
            for (int which = 0; which <= 2; which++) {
                Check.due("setting " + which, stamp.count(13 + which), new int[] {31, 101, 41}[which]);
            }
        });
        telling.test("- `what`: 0 for the day of today, 1 for the ink", () -> {
            Range.test("count's what", 0, 15, Check.BAD_VALUE, what -> new StampDater().count(what));
            StampDater late = Stamps.onDay(Stamps.LAST_DAY);
            Check.due("the last day", late.count(0), Stamps.LAST_DAY);
            Check.due("ink at first", late.count(1), 100);
            late.fill(200);
            Check.due("the most ink", late.count(1), 200);
        });
        telling.test("Returns the number; BAD_VALUE.", "count", () -> {
            Check.due("no such what", new StampDater().count(16), Check.BAD_VALUE);
            Check.due("no such what", new StampDater().count(-1), Check.BAD_VALUE);
        });
    }

    private static void shownDay() {
        StampDater stamp = new StampDater();
        Check.due("000000 is no date", stamp.count(9), Check.NONE);
        Check.due("000000 is not today", stamp.count(8), 0);
        stamp.adjust(0);
        Check.due("the first day", stamp.count(9), 0);
        Check.due("today", stamp.count(8), 1);
        stamp.adjust(Stamps.LAST_DAY);
        Check.due("the last day", stamp.count(9), Stamps.LAST_DAY);
        Check.due("not today", stamp.count(8), 0);
        stamp.adjust(59);
        Check.due("290200", stamp.count(9), 59);
        stamp.turn(5, 1);
        Check.due("290201", stamp.count(9), Check.NONE);
        stamp.turn(5, 3);
        Check.due("290204", stamp.count(9), stamp.day(290204));
        stamp.pass(365 + 1);
        stamp.adjust(366);
        Check.due("the day that has passed to", stamp.count(8), 1);
    }

    private static void even(Sentences telling) {
        telling.test("the mean of the wears of all digits of all bands, as a double (their sum divided by 60.0), divided by the "
                + "greatest of them", () -> {
            StampDater stamp = new StampDater();
            stamp.press(1, 3);
            // 0.09999999999999999: this order of the divisions alone makes it
            Check.due("three", stamp.even(), 18 / 60.0 / 3);
            stamp.turn(2, 1);
            stamp.press(8, 1);
            Check.due("one digit more", stamp.even(), (18 + 18) / 60.0 / 6);
            stamp.press(9, 99);
            Check.due("99 at most", stamp.even(), (99 * 6 + 3) / 60.0 / 99);
        });
        telling.test("Returns the share; 1.0 if none is worn.", () -> {
            StampDater stamp = new StampDater();
            Check.due("new", stamp.even(), 1.0);
            stamp.press(1, 1);
            Check.due("six of sixty", stamp.even(), 0.1);
            for (int digit = 1; digit <= 9; digit++) {
                Stamps.turnAll(stamp, 1);
                stamp.press(1, 1);
            }
            Check.due("all alike", stamp.even(), 1.0);
            stamp.press(9, 1);
            Check.due("less even", stamp.even(), 78 / 60.0 / 4);
            Stamps.replaceAll(stamp);
            Check.due("new again", stamp.even(), 1.0);
        });
    }

    // ---- what would be

    private static void stepsTo(Sentences telling) {
        telling.test("- `day`: 0 to 36524", "stepsTo", () ->
                Range.test("stepsTo", 0, Stamps.LAST_DAY, Check.UNKNOWN, day -> new StampDater().stepsTo(day)));
        telling.test("Returns how many; UNKNOWN.", "stepsTo", () -> {
            Check.due("a day that there is not", new StampDater().stepsTo(36525), Check.UNKNOWN);
            StampDater stamp = new StampDater();
            Check.due("the first day", stamp.stepsTo(0), 2);
            Check.due("the last day", stamp.stepsTo(Stamps.LAST_DAY), 3 + 1 + 1 + 2 + 1 + 1);
            Check.due("five steps each way", stamp.stepsTo(stamp.day(50555)), 5 + 5 + 5 + 5);
            stamp.adjust(7);
            Check.due("none", stamp.stepsTo(7), 0);
            Check.due("no step is done", stamp.count(6), 3);
        });
    }

    private static void leastPress(Sentences telling) {
        telling.test("Finds the least strength with which all digits would be clear now.", () -> {
            for (int strength = 1; strength <= 4; strength++) {
                StampDater stamp = new StampDater();
                stamp.set(0, 8 * strength + 25);
                Check.due("just as dark", stamp.leastPress(), strength);
                stamp.set(0, 8 * strength + 26);
                Check.due("one more", stamp.leastPress(), strength + 1);
            }
            StampDater smudged = new StampDater();
            smudged.fill(84);
            smudged.set(1, 60);
            // 8 + 46 and 16 + 46
            Check.due("not smudged", smudged.leastPress(), 1);
            smudged.set(0, 54);
            Check.due("just between", smudged.leastPress(), 1);
        });
        telling.test("Returns the strength; NONE if there is none.", "leastPress", () -> {
            StampDater between = new StampDater();
            between.set(0, 60);
            between.set(1, 60);
            Check.due("57 is faint and 65 is smudged", between.leastPress(), Check.NONE);
            Check.due("no act", between.count(11), 2);
            StampDater nine = new StampDater();
            nine.set(0, 60);
            nine.press(1, 26);
            // 72 + 18 - 26 = 64
            Check.due("the strongest", nine.leastPress(), 9);
            nine.press(1, 3);
            Check.due("72 + 17 - 29 = 60", nine.leastPress(), 9);
            nine.press(1, 1);
            Check.due("72 + 17 - 30 = 59", nine.leastPress(), Check.NONE);
            nine.replace(0);
            Check.due("one digit is clear", nine.leastPress(), Check.NONE);
            for (int place = 1; place < 6; place++) {
                nine.replace(place);
            }
            Check.due("all are clear", nine.leastPress(), 6);
        });
    }

    private static void lasts(Sentences telling) {
        telling.test("- `strength`: 1 to 9", "lasts", () ->
                Range.test("lasts", 1, 9, Check.BAD_VALUE, strength -> new StampDater().lasts(strength, 1)));
        telling.test("- `times`: 1 to 20", "lasts", () ->
                Range.test("lasts", 1, 20, Check.BAD_VALUE, times -> new StampDater().lasts(1, times)));
        telling.test("each day, from today on, it is adjusted to the day and pressed some times", () -> {
            StampDater stamp = new StampDater();
            stamp.set(0, 20);
            // the digits of the year are printed each day
            Check.due("8 + 25 - 14 is faint", stamp.lasts(1, 1), 14);
            Check.due("8 + 24 - 13 is faint, the second one of the day 6", stamp.lasts(1, 2), 6);
            Check.due("8 + 24 - 13 is faint, the second one of the day 4", stamp.lasts(1, 3), 4);
            Check.due("nothing is done", stamp.count(0) + stamp.count(2) + stamp.count(6), 0);
        });
        telling.test("and behind the day the ink is filled up to what it is now", () -> {
            StampDater stamp = new StampDater();
            stamp.press(6, 10);
            Stamps.replaceAll(stamp);
            stamp.set(0, 10);
            // 8 + 10 - 9 is faint, by the digits of the year, that are printed each day
            Check.due("with the ink 40", stamp.lasts(1, 1), 9);
            stamp.fill(60);
            Check.due("with the ink 100", stamp.lasts(1, 1), 24);
            Check.due("the ink stays", stamp.count(1), 100);
        });
        telling.test("slips are as told", () -> {
            StampDater stamp = new StampDater();
            stamp.set(2, 1);
            Check.due("two bands are loose: the second print slips", stamp.lasts(7, 2), 0);
            Check.due("one print each day", stamp.lasts(7, 1) > 0 ? 1 : 0, 1);
            Check.due("none slips", stamp.lasts(6, 2) > 0 ? 1 : 0, 1);
            stamp.set(2, 3);
            // the ones of the day have the slack 1, 2 and 3; 72 + 25 is clear for long
            Check.due("on the third day it is loose", stamp.lasts(9, 2), 2);
        });
        telling.test("0 if one of today is not; BAD_VALUE; NONE if all are within 200 days (today is the first one), or up to "
                + "the day 36524", EdgesOfTellingTest::daysThatItLasts);
    }

    /** All digits are worn, so that they are not smudged, but for the ones of the years behind the year 00. */
    private static StampDater smudgedAtNewYear() {
        StampDater stamp = new StampDater();
        stamp.set(0, 10);
        for (int digit = 0; digit <= 9; digit++) {
            stamp.press(4, 15);
            for (int place = 0; place < 5; place++) {
                stamp.turn(place, 1);
            }
        }
        stamp.fill(200);
        return stamp;
    }

    private static void daysThatItLasts() {
        StampDater stamp = new StampDater();
        Check.due("the fourth of today is faint", stamp.lasts(1, 4), 0);
        stamp.set(0, 34);
        Check.due("the first of today is faint", stamp.lasts(1, 1), 0);
        for (int days = 198; days <= 202; days++) {
            StampDater worn = smudgedAtNewYear();
            worn.pass(366 - days);
            Check.due("not right behind " + days + " days", worn.lasts(9, 1), days < 200 ? days : Check.NONE);
        }
        for (int left = 3; left <= 5; left++) {
            StampDater late = Stamps.onDay(Stamps.LAST_DAY - left);
            Check.due("not right behind 4 days of " + left, late.lasts(1, 1), left < 4 ? Check.NONE : 4);
        }
        StampDater last = Stamps.onDay(Stamps.LAST_DAY);
        Check.due("the last day", last.lasts(1, 3), Check.NONE);
        Check.due("the last day, the fourth is faint", last.lasts(1, 4), 0);
        Check.due("wrong, though it would last", last.lasts(10, 1), Check.BAD_VALUE);
        Check.due("wrong, though it would last", last.lasts(1, 21), Check.BAD_VALUE);
        Check.due("both wrong", last.lasts(0, 0), Check.BAD_VALUE);
    }

    // ---- bestExchange

    /** A stamp on a day, with ink 200, on which one band is worn at some digits, so that they are faint by 1 and 2. */
    private static StampDater wornAt(int place, int day, int... digits) {
        StampDater stamp = Stamps.onDay(day);
        Stamps.turnAll(stamp, 5);
        for (int digit : digits) {
            stamp.turn(place, (digit + 10 - stamp.band(place, 1)) % 10);
            stamp.press(1, 25);
        }
        for (int other = 0; other < 6; other++) {
            if (other != place) {
                stamp.replace(other);
            }
        }
        stamp.fill(200);
        stamp.set(0, 45);
        return stamp;
    }

    private static int lastsExchanged(StampDater stamp, int place, int other) {
        stamp.exchange(place, other);
        int lasts = stamp.lasts(1, 1);
        stamp.undo();
        return lasts;
    }

    private static void bestExchange(Sentences telling) {
        telling.test("- `strength`: 1 to 9", "bestExchange", () ->
                Range.test("bestExchange", 1, 9, Check.BAD_VALUE, strength -> new StampDater().bestExchange(strength, 1)));
        telling.test("- `times`: 1 to 20", "bestExchange", () ->
                Range.test("bestExchange", 1, 20, Check.BAD_VALUE, times -> new StampDater().bestExchange(1, times)));
        telling.test("by which the stamp lasts the longest, as lasts() tells (NONE is the longest)", () -> {
            // 301299 and 311299; the band in the place 0 is faint at 3 and 1
            StampDater stamp = wornAt(0, Stamps.LAST_DAY - 1, 3, 1);
            int[] due = {0, 1, 0, Check.NONE, Check.NONE, Check.NONE};
            Check.due("as it is", stamp.lasts(1, 1), 0);
            for (int other = 1; other <= 5; other++) {
                Check.due("exchanged with " + other, lastsExchanged(stamp, 0, other), due[other]);
            }
            Check.due("NONE is longer than 1 day", stamp.bestExchange(1, 1), 3);
        });
        telling.test("of several the one with the lowest first place, of several the lowest second one", () -> {
            Check.due("of 01 to 05", wornAt(0, Stamps.LAST_DAY, 3).bestExchange(1, 1), 1);
            Check.due("of 02, 24 and 25", wornAt(2, Stamps.LAST_DAY, 1, 2).bestExchange(1, 1), 2);
            Check.due("of 14, 24 and 34", wornAt(4, Stamps.LAST_DAY, 9, 3).bestExchange(1, 1), 14);
            Check.due("of 34 alone", wornAt(4, Stamps.LAST_DAY, 9, 3, 1).bestExchange(1, 1), 34);
        });
        telling.test("10 times the first place, and the second one (greater than the first one); BAD_VALUE; NONE if no exchange "
                + "lasts longer than none", () -> {
            Check.due("the last two places", exchangeOfTheYears().bestExchange(1, 1), 45);
            Check.due("all alike", new StampDater().bestExchange(1, 4), Check.NONE);
            StampDater last = Stamps.onDay(Stamps.LAST_DAY);
            Check.due("it lasts already", last.bestExchange(1, 1), Check.NONE);
            Check.due("wrong, though it lasts already", last.bestExchange(10, 1), Check.BAD_VALUE);
            Check.due("wrong, though it lasts already", last.bestExchange(1, 21), Check.BAD_VALUE);
            Check.due("both wrong", last.bestExchange(0, 0), Check.BAD_VALUE);
            Check.due("all are faint", faintForAll().bestExchange(1, 1), Check.NONE);
            int day = last.day(110700);
            Check.due("faint wherever it is", wornAt(2, day, 0, 1, 7).bestExchange(1, 1), Check.NONE);
            Check.due("but in the place 3", wornAt(2, day, 0, 1).bestExchange(1, 1), 23);
        });
    }

    /** On 311298: the bands in the places 4 and 5 are faint at the digits that others show, and at their own. */
    private static StampDater exchangeOfTheYears() {
        StampDater stamp = Stamps.onDay(Stamps.LAST_DAY - 365);
        int[][] worn = {{4, 3}, {4, 1}, {4, 2}, {4, 9}, {5, 3}, {5, 1}, {5, 2}, {5, 8}};
        for (int[] digit : worn) {
            stamp.turn(digit[0], (digit[1] + 10 - stamp.band(digit[0], 1)) % 10);
            stamp.turn(9 - digit[0], (6 + 10 - stamp.band(9 - digit[0], 1)) % 10);
            stamp.press(1, 25);
        }
        for (int place = 0; place < 4; place++) {
            stamp.replace(place);
        }
        stamp.fill(200);
        stamp.set(0, 45);
        return stamp;
    }

    private static StampDater faintForAll() {
        StampDater stamp = new StampDater();
        stamp.set(0, 60);
        return stamp;
    }
}
