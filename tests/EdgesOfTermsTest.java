import java.io.IOException;

/** The sentences of "Terms" but for texts: dates, the stamp, pressing, history, errors; a test for each. */
public final class EdgesOfTermsTest {
    private static final int[] LENGTHS = {31, 28, 31, 30, 31, 30, 31, 31, 30, 31, 30, 31};

    public static void main(String[] args) throws IOException {
        Sentences terms = new Sentences("EdgesOfTermsTest");
        dates(terms);
        stamp(terms);
        settings(terms);
        pressing(terms);
        history(terms);
        errors(terms);
        terms.end();
    }

    // ---- dates

    private static void dates(Sentences terms) {
        terms.test("Days are numbered from 0, the 1st of January of the year 00, to 36524, the last day of the year 99.",
                EdgesOfTermsTest::firstAndLastDay);
        terms.test("Years divisible by 4 (also 00) have a 29th of February.", EdgesOfTermsTest::leapYears);
        terms.test("two of the day of the month, two of the month (01 to 12), two of the year",
                EdgesOfTermsTest::daysAndMonthsThatThereAre);
        terms.test("The day of today is 0 at first.", () -> {
            Check.due("today", new StampDater().count(0), 0);
            Check.due("adjusting to today shows it", stampOfToday().count(9), 0);
        });
    }

    private static void firstAndLastDay() {
        StampDater stamp = new StampDater();
        Check.due("date(0, 3)", stamp.date(0, 3), 10100);
        Check.due("day(010100)", stamp.day(10100), 0);
        Check.due("date(36524, 3)", stamp.date(36524, 3), 311299);
        Check.due("day(311299)", stamp.day(311299), 36524);
        Check.due("the day before the first", stamp.date(-1, 3), Check.UNKNOWN);
        Check.due("the day behind the last", stamp.date(36525, 3), Check.UNKNOWN);
        Check.due("the last day of the first year", stamp.date(365, 3), 311200);
        Check.due("the first day of the next year", stamp.date(366, 3), 10101);
    }

    private static void leapYears() {
        for (int year = 0; year <= 99; year++) {
            StampDater stamp = new StampDater();
            boolean isLeap = year == 0 || year / 4 * 4 == year;
            int before = stamp.day(280200 + year);
            Check.due("29.02." + year, stamp.day(290200 + year), isLeap ? before + 1 : Check.NONE);
            Check.due("01.03." + year, stamp.day(10300 + year), isLeap ? before + 2 : before + 1);
            Check.due("the day behind 28.02." + year, stamp.date(before + 1, 3), (isLeap ? 290200 : 10300) + year);
            Check.due("30.02." + year, stamp.day(300200 + year), Check.NONE);
        }
    }

    private static void daysAndMonthsThatThereAre() {
        StampDater stamp = new StampDater();
        Check.due("month 00", stamp.day(10000), Check.NONE);
        Check.due("month 13", stamp.day(11300), Check.NONE);
        Check.due("month 99", stamp.day(19900), Check.NONE);
        Check.due("day 00", stamp.day(100), Check.NONE);
        Check.due("day 00 of month 00", stamp.day(0), Check.NONE);
        Check.due("day 99", stamp.day(990100), Check.NONE);
        int first = stamp.day(10101);
        for (int month = 1; month <= 12; month++) {
            int length = LENGTHS[month - 1];
            int digits = 100 * month + 1;
            Check.due("the first of the month " + month, stamp.day(10000 + digits), first);
            Check.due("the last of the month " + month, stamp.day(10000 * length + digits), first + length - 1);
            Check.due("one more of the month " + month, stamp.day(10000 * (length + 1) + digits), Check.NONE);
            Check.due("date of the last", stamp.date(first + length - 1, 3), 10000 * length + digits);
            first += length;
        }
    }

    private static StampDater stampOfToday() {
        StampDater stamp = Stamps.withText("a");
        stamp.doAll();
        return stamp;
    }

    // ---- the stamp

    private static void stamp(Sentences terms) {
        terms.test("There are 6 places, 0 to 5, in which the six digits of a date are shown in this order.",
                EdgesOfTermsTest::placesInOrder);
        terms.test("the bands are numbered 0 to 5 and are in the places of their numbers at first", () -> {
            for (int place = 0; place < 6; place++) {
                Check.due("band in " + place, new StampDater().band(place, 0), place);
            }
        });
        terms.test("A band is a ring of the digits 0 to 9; it shows one of them, 0 at first", EdgesOfTermsTest::ring);
        terms.test("for each of its digits it has a wear (0 to 99), 0 at first", EdgesOfTermsTest::wearFromZero);
        terms.test("and it has a slack (0 to 99), 0 at first", EdgesOfTermsTest::slackFromZero);
        terms.test("The pad has ink (0 to 200), 100 at first.", EdgesOfTermsTest::ink);
        terms.test("To adjust the stamp to a date is to turn the band in each place to the digit that is due, by the fewest "
                + "steps, forward (from 9 to 0) if both ways are as long.", EdgesOfTermsTest::fewestSteps);
        terms.test("Each step makes the slack of the band 1 more (99 stays).", EdgesOfTermsTest::slackOfSteps);
    }

    private static void placesInOrder() {
        StampDater stamp = new StampDater();
        stamp.adjust(stamp.day(231245));
        int[] shown = {2, 3, 1, 2, 4, 5};
        for (int place = 0; place < 6; place++) {
            Check.due("shown in " + place, stamp.band(place, 1), shown[place]);
        }
        Check.due("no place before 0", stamp.band(-1, 1), Check.UNKNOWN);
        Check.due("no place behind 5", stamp.band(6, 1), Check.UNKNOWN);
        stamp.press(1, 1);
        Check.due("printed", stamp.print(0, 0), 231245);
    }

    private static void ring() {
        for (int place = 0; place < 6; place++) {
            StampDater stamp = new StampDater();
            Check.due("shown at first", stamp.band(place, 1), 0);
            Check.due("back from 0", stamp.turn(place, -1), 9);
            Check.due("on from 9", stamp.turn(place, 1), 0);
            Check.due("on to 9", stamp.turn(place, 9), 9);
            Check.due("by 2 over 9", stamp.turn(place, 2), 1);
            Check.due("back by 3 over 0", stamp.turn(place, -3), 8);
            Check.due("on by 9 over 9", stamp.turn(place, 9), 7);
            Check.due("back by 9 over 0", stamp.turn(place, -9), 8);
        }
    }

    private static void wearFromZero() {
        StampDater stamp = new StampDater();
        for (int place = 0; place < 6; place++) {
            for (int digit = 0; digit <= 9; digit++) {
                Check.due("wear of " + digit + " in " + place, stamp.wear(place, digit), 0);
            }
            Check.due("the greatest", stamp.band(place, 3), 0);
            Check.due("the least", stamp.band(place, 4), 0);
        }
        stamp.press(9, 33);
        Check.due("33 times 3", stamp.wear(0, 0), 99);
        stamp.press(9, 99);
        Check.due("no more than 99", stamp.wear(0, 0), 99);
        Check.due("the greatest no more than 99", stamp.band(0, 3), 99);
    }

    private static void slackFromZero() {
        StampDater stamp = new StampDater();
        for (int place = 0; place < 6; place++) {
            Check.due("slack in " + place, stamp.band(place, 2), 0);
            Check.due("none to tighten in " + place, stamp.tighten(place), Check.NONE);
        }
    }

    private static void ink() {
        StampDater stamp = new StampDater();
        Check.due("ink at first", stamp.count(1), 100);
        stamp.fill(200);
        Check.due("the most ink", stamp.count(1), 200);
        stamp.press(9, 99);
        Check.due("the least ink", stamp.count(1), 0);
        stamp.fill(1);
        Check.due("more than the least", stamp.count(1), 1);
    }

    /** From each digit of the years to each other one. */
    private static void fewestSteps() {
        int[] steps = {0, 1, 2, 3, 4, 5, 4, 3, 2, 1};
        for (int from = 0; from <= 9; from++) {
            StampDater stamp = new StampDater();
            int first = stamp.day(10100 + from);
            for (int to = 0; to <= 9; to++) {
                int due = steps[Math.abs(to - from)];
                stamp.adjust(first);
                int before = stamp.count(6);
                stamp.tighten(5);
                Check.due("stepsTo from " + from + " to " + to, stamp.stepsTo(stamp.day(10100 + to)), due);
                Check.due("adjust from " + from + " to " + to, stamp.adjust(stamp.day(10100 + to)), due);
                Check.due("shown", stamp.band(5, 1), to);
                Check.due("slack", stamp.band(5, 2), due);
                Check.due("steps", stamp.count(6) - before, due);
            }
        }
    }

    private static void slackOfSteps() {
        StampDater stamp = new StampDater();
        stamp.turn(2, 1);
        Check.due("one step", stamp.band(2, 2), 1);
        Check.due("no slack elsewhere", stamp.band(1, 2) + stamp.band(3, 2), 0);
        stamp.turn(2, -6);
        Check.due("six more, back", stamp.band(2, 2), 7);
        for (int slack = 7; slack < 97; slack += 9) {
            stamp.turn(2, 9);
        }
        Check.due("97", stamp.band(2, 2), 97);
        stamp.turn(2, 1);
        Check.due("98", stamp.band(2, 2), 98);
        stamp.turn(2, 1);
        Check.due("99", stamp.band(2, 2), 99);
        stamp.turn(2, -1);
        Check.due("99 stays by one step", stamp.band(2, 2), 99);
        stamp.turn(2, 9);
        Check.due("99 stays by nine steps", stamp.band(2, 2), 99);
        stamp.turn(5, 4);
        stamp.adjust(0);
        Check.due("99 stays by adjusting", stamp.band(2, 2), 99);
        Check.due("adjusting makes slack", stamp.band(5, 2), 8);
        StampDater over = new StampDater();
        for (int time = 0; time < 10; time++) {
            over.turn(0, 9);
        }
        over.turn(0, 5);
        Check.due("95", over.band(0, 2), 95);
        over.turn(0, 9);
        Check.due("no more than 99", over.band(0, 2), 99);
    }

    // ---- pressing

    private static void settings(Sentences terms) {
        terms.test("0 the least darkness that is not faint (10 to 60; 30)", () -> {
            Check.due("at first", new StampDater().count(13), 30);
            // 8 + 100 / 4
            Check.due("as dark as it", faintOf(1, 33), 0);
            Check.due("one less", faintOf(1, 34), 63);
        });
        terms.test("1 the greatest darkness that is not smudged (60 to 150; 100)", () -> {
            Check.due("at first", new StampDater().count(14), 100);
            // 72 + 100 / 4
            Check.due("as dark as it", smudgedOf(9, 97), 0);
            Check.due("one more", smudgedOf(9, 96), 63);
        });
        terms.test("2 the slack by which a band is loose (1 to 99; 40)", () -> {
            Check.due("at first", new StampDater().count(15), 40);
            Check.due("39 is not", slipsOfSlack(39, 40, 9), 0);
            Check.due("40 is", slipsOfSlack(40, 40, 9), 1);
            Check.due("the least setting, no slack", slipsOfSlack(0, 1, 9), 0);
            Check.due("the least setting", slipsOfSlack(1, 1, 9), 1);
            Check.due("98 is not by the greatest setting", slipsOfSlack(98, 99, 9), 0);
            Check.due("the greatest setting", slipsOfSlack(99, 99, 9), 1);
        });
    }

    private static int faintOf(int strength, int setting) {
        StampDater stamp = new StampDater();
        stamp.set(0, setting);
        stamp.press(strength, 1);
        Check.due("not smudged", stamp.print(0, 3), 0);
        return stamp.print(0, 2);
    }

    private static int smudgedOf(int strength, int setting) {
        StampDater stamp = new StampDater();
        stamp.set(1, setting);
        stamp.press(strength, 1);
        Check.due("not faint", stamp.print(0, 2), 0);
        return stamp.print(0, 3);
    }

    private static StampDater ofSlack(int slack, int setting) {
        StampDater stamp = new StampDater();
        stamp.set(2, setting);
        for (int left = slack; left > 0; left -= 9) {
            stamp.turn(4, Math.min(9, left));
        }
        return stamp;
    }

    private static int slipsOfSlack(int slack, int setting, int strength) {
        StampDater stamp = ofSlack(slack, setting);
        stamp.press(strength, 1);
        return stamp.count(7);
    }

    private static void pressing(Sentences terms) {
        terms.test("with the darkness 8 times the strength, and a quarter of the ink (rounded down), less the wear of this "
                + "digit of this band", EdgesOfTermsTest::darkness);
        terms.test("It is faint if the darkness is less than the setting 0, smudged if it is greater than the setting 1, "
                + "otherwise clear.", EdgesOfTermsTest::faintClearSmudged);
        terms.test("A print is right if it shows the date of today, and all its digits are clear.", EdgesOfTermsTest::right);
        terms.test("Then the wear of each digit that was printed is 1 more, and a quarter of the strength more (rounded "
                + "down; 99 at most)", EdgesOfTermsTest::wearOfPressing);
        terms.test("and the ink is less by the strength (0 at least)", EdgesOfTermsTest::inkOfPressing);
        terms.test("Then, if the strength is 7 or more, each band whose slack is as many as the setting 2 or more slips",
                EdgesOfTermsTest::slipping);
        terms.test("it shows the next digit (0 behind 9), and its slack is 0 (this is no step)", EdgesOfTermsTest::slipped);
        terms.test("Of the prints the latest 12 are known.", EdgesOfTermsTest::latestPrints);
    }

    private static void darkness() {
        StampDater stamp = new StampDater();
        stamp.turn(5, 1);
        int[] quarters = {25, 24, 24, 24, 24, 23, 23, 23, 23, 22};
        for (int printed = 0; printed < quarters.length; printed++) {
            Check.due("ink", stamp.count(1), 100 - printed);
            Check.due("a worn digit", stamp.band(0, 6), 100 + 40 + quarters[printed] - printed);
            Check.due("the digits of the band in 5 are new", stamp.band(5, 6), 100 + 40 + quarters[printed]);
            stamp.press(1, 1);
            stamp.replace(5);
        }
        for (int strength = 1; strength <= 4; strength++) {
            Check.due("strength " + strength, faintOf(strength, 8 * strength + 25), 0);
            Check.due("strength " + strength, faintOf(strength, 8 * strength + 25 + 1), 63);
        }
        for (int strength = 5; strength <= 9; strength++) {
            Check.due("strength " + strength, smudgedOf(strength, 8 * strength + 25), 0);
            Check.due("strength " + strength, smudgedOf(strength, 8 * strength + 25 - 1), 63);
        }
        StampDater dry = new StampDater();
        dry.press(9, 99);
        Check.due("without ink, worn by 99", dry.band(0, 6), 100 + 40 - 99);
        dry.turn(0, 1);
        Check.due("without ink and wear", dry.band(0, 6), 100 + 40);
    }

    /** With both settings 60, of three neighbours the middle one alone is clear. */
    private static void faintClearSmudged() {
        for (int ink = 76; ink <= 84; ink += 4) {
            StampDater stamp = new StampDater();
            stamp.set(0, 60);
            stamp.set(1, 60);
            stamp.press(4, (100 - ink) / 4);
            Stamps.turnAll(stamp, 1);
            int darkness = 40 + ink / 4;
            stamp.press(5, 1);
            Check.due("faint of " + darkness, stamp.print(0, 2), darkness < 60 ? 63 : 0);
            Check.due("smudged of " + darkness, stamp.print(0, 3), darkness > 60 ? 63 : 0);
        }
        StampDater below = new StampDater();
        below.press(9, 99);
        Check.due("a darkness below 0 is faint", below.print(0, 2), 63);
        Check.due("and not smudged", below.print(0, 3), 0);
    }

    private static void right() {
        StampDater stamp = new StampDater();
        stamp.adjust(0);
        Check.due("today, all clear", stamp.press(1, 1), 1);
        stamp.adjust(1);
        Check.due("another day, all clear", stamp.press(1, 1), 0);
        stamp.turn(0, 2);
        Check.due("no date, all clear", stamp.press(1, 1), 0);
        for (int place = 0; place < 6; place++) {
            StampDater faint = new StampDater();
            faint.adjust(0);
            faint.press(1, 3);
            faint.replace(place);
            faint.adjust(0);
            // 8 + 24 - 3 = 29 is faint
            Check.due("faint but in " + place, faint.press(1, 1), 0);
            Check.due("faint but in " + place, faint.print(0, 2), 63 - (1 << place));
            StampDater smudged = new StampDater();
            smudged.fill(100);
            smudged.adjust(0);
            smudged.press(1, 30);
            smudged.replace(place);
            smudged.adjust(0);
            // 72 + 42 = 114 is smudged, 114 - 30 is not
            Check.due("smudged in " + place, smudged.press(9, 1), 0);
            Check.due("smudged in " + place, smudged.print(0, 3), 1 << place);
            Check.due("faint there", smudged.print(0, 2), 0);
        }
    }

    private static void wearOfPressing() {
        int[] wears = {1, 1, 1, 2, 2, 2, 2, 3, 3};
        for (int strength = 1; strength <= 9; strength++) {
            StampDater stamp = new StampDater();
            stamp.turn(2, 7);
            stamp.press(strength, 1);
            Check.due("0, strength " + strength, stamp.wear(0, 0), wears[strength - 1]);
            Check.due("7, strength " + strength, stamp.wear(2, 7), wears[strength - 1]);
            Check.due("not printed, strength " + strength, stamp.wear(2, 0) + stamp.wear(2, 8) + stamp.wear(0, 7), 0);
            stamp.press(strength, 98);
            Check.due("99 at most, strength " + strength, stamp.wear(0, 0), 99);
        }
        StampDater stamp = new StampDater();
        stamp.press(1, 98);
        Check.due("98", stamp.wear(0, 0), 98);
        stamp.press(9, 1);
        Check.due("98 and 3", stamp.wear(0, 0), 99);
        stamp.press(1, 1);
        Check.due("99 and 1", stamp.wear(0, 0), 99);
    }

    private static void inkOfPressing() {
        for (int strength = 1; strength <= 9; strength++) {
            StampDater stamp = new StampDater();
            stamp.press(strength, 1);
            Check.due("strength " + strength, stamp.count(1), 100 - strength);
        }
        StampDater stamp = new StampDater();
        stamp.press(8, 12);
        Check.due("4 are left", stamp.count(1), 4);
        stamp.press(4, 1);
        Check.due("just 0", stamp.count(1), 0);
        stamp.press(1, 1);
        Check.due("0 stays", stamp.count(1), 0);
        stamp.fill(3);
        stamp.press(9, 1);
        Check.due("less than the strength", stamp.count(1), 0);
    }

    private static void slipping() {
        for (int strength = 1; strength <= 9; strength++) {
            Check.due("strength " + strength, slipsOfSlack(10, 10, strength), strength >= 7 ? 1 : 0);
            Check.due("one less, strength " + strength, slipsOfSlack(9, 10, strength), 0);
            Check.due("one more, strength " + strength, slipsOfSlack(11, 10, strength), strength >= 7 ? 1 : 0);
        }
        StampDater stamp = new StampDater();
        stamp.set(2, 3);
        for (int place = 0; place < 6; place++) {
            stamp.turn(place, 1 + place);
        }
        stamp.press(7, 1);
        Check.due("the bands of slack 3 and more", stamp.count(7), 4);
        int[] shown = {1, 2, 4, 5, 6, 7};
        for (int place = 0; place < 6; place++) {
            Check.due("shown in " + place, stamp.band(place, 1), shown[place]);
        }
    }

    private static void slipped() {
        StampDater stamp = ofSlack(9, 9);
        stamp.press(7, 3);
        Check.due("0 behind 9", stamp.band(4, 1), 0);
        Check.due("no slack", stamp.band(4, 2), 0);
        Check.due("one slip", stamp.count(7), 1);
        Check.due("no step", stamp.count(6), 9);
        Check.due("the print before it", stamp.print(2, 0), 90);
        Check.due("the print behind it", stamp.print(1, 0), 0);
        Check.due("the wear of what was printed before", stamp.wear(4, 9), 2);
        StampDater eight = ofSlack(8, 8);
        eight.press(7, 1);
        Check.due("9 behind 8", eight.band(4, 1), 9);
    }

    private static void latestPrints() {
        StampDater stamp = new StampDater();
        stamp.press(2, 1);
        for (int prints = 1; prints <= 12; prints++) {
            Check.due("print 0 of " + prints, stamp.print(prints - 1, 5), 2);
            Check.due("none behind " + prints, stamp.print(prints, 5), Check.UNKNOWN);
            stamp.press(1, 1);
        }
        Check.due("the twelfth is the second of 13", stamp.print(11, 5), 1);
        Check.due("the first is not known any more", stamp.print(12, 5), Check.UNKNOWN);
        Check.due("it is counted", stamp.count(2), 13);
        StampDater atOnce = new StampDater();
        atOnce.press(2, 1);
        atOnce.press(3, 11);
        Check.due("known yet", atOnce.print(11, 5), 2);
        atOnce.press(3, 12);
        Check.due("by 12 at once", atOnce.print(11, 5), 3);
    }

    // ---- history

    private static void history(Sentences terms) {
        terms.test("A history of at most 4 states is kept; when one more is recorded, the oldest one is dropped; undo() "
                + "removes and restores the latest one.", EdgesOfTermsTest::fourStates);
        terms.test("Each call of a method that is described as an act, and returns no error and not NONE, records the state "
                + "that was before it.", EdgesOfTermsTest::actsRecord);
        terms.test("There is one snapshot, empty at first.", EdgesOfTermsTest::oneSnapshot);
        terms.test("A state is everything but the text, the history and the snapshot.", EdgesOfTermsTest::whatAStateIs);
    }

    private static void fourStates() {
        StampDater stamp = new StampDater();
        Check.due("empty at first", stamp.count(11), 0);
        Check.due("undo of none", stamp.undo(), Check.NONE);
        int[] states = {1, 2, 3, 4, 4, 4};
        for (int day = 1; day <= 6; day++) {
            stamp.pass(1);
            Check.due("states", stamp.count(11), states[day - 1]);
        }
        for (int left = 3; left >= 0; left--) {
            Check.due("undo", stamp.undo(), left);
            Check.due("today", stamp.count(0), 2 + left);
            Check.due("states", stamp.count(11), left);
        }
        Check.due("the oldest ones are dropped", stamp.undo(), Check.NONE);
        Check.due("today stays", stamp.count(0), 2);
        stamp.pass(9);
        Check.due("one again", stamp.count(11), 1);
        Check.due("undo again", stamp.undo(), 0);
        Check.due("today again", stamp.count(0), 2);
    }

    private static final int ACTS = 11;

    private static int act(StampDater stamp, int which) {
        switch (which) {
            case 0:
                return stamp.pass(40);
            case 1:
                return stamp.adjust(40);
            case 2:
                return stamp.turn(3, -8);
            case 3:
                return stamp.press(8, 13);
            case 4:
                return stamp.fill(30);
            case 5:
                return stamp.exchange(0, 5);
            case 6:
                return stamp.tighten(3);
            case 7:
                return stamp.replace(1);
            case 8:
                return stamp.set(2, 5);
            case 9:
                return stamp.doAll();
            default:
                return stamp.restore();
        }
    }

    private static void actsRecord() {
        for (int which = 0; which < ACTS; which++) {
            StampDater stamp = new StampDater();
            stamp.turn(3, 5);
            stamp.keep();
            Stamps.type(stamp, "a;p8x3;+5;i7");
            stamp.press(7, 1);
            String before = Stamps.state(stamp);
            Check.due("act " + which + " is done", act(stamp, which) >= 0 ? 1 : 0, 1);
            Check.due("act " + which + " records one state", stamp.count(11), 3);
            Check.due("undo of act " + which, stamp.undo(), 2);
            Check.same("undo of act " + which, Stamps.state(stamp), before);
        }
        StampDater stamp = Stamps.used();
        stamp.undo();
        stamp.type(';');
        stamp.fault();
        stamp.keep();
        stamp.clearText();
        Check.due("what is no act records nothing", stamp.count(11), 3);
    }

    private static void oneSnapshot() {
        StampDater stamp = new StampDater();
        Check.due("empty at first", stamp.restore(), Check.NONE);
        stamp.pass(1);
        stamp.keep();
        stamp.pass(2);
        stamp.keep();
        stamp.pass(3);
        Check.due("the later one", stamp.restore(), 3);
        Check.due("no other", stamp.restore(), 3);
    }

    private static void whatAStateIs() {
        StampDater stamp = new StampDater();
        stamp.keep();
        stamp.pass(1);
        stamp.keep();
        stamp.type('a');
        Check.due("undo leaves the text", stamp.undo() + stamp.count(12), 1);
        Check.due("undo leaves the snapshot", stamp.restore(), 1);
        stamp.type(';');
        stamp.pass(1);
        stamp.restore();
        Check.due("restore leaves the text", stamp.count(12), 2);
        Check.due("restore leaves the history", stamp.count(11), 3);
        everythingElse();
        printsComeBack();
    }

    /** Each number that is told comes back by undo(), and by restore(). */
    private static void everythingElse() {
        StampDater stamp = Stamps.used();
        stamp.undo();
        stamp.undo();
        stamp.keep();
        String before = Stamps.stateInShort(stamp);
        stamp.doAll();
        stamp.set(0, 44);
        Check.due("undo of a setting", stamp.undo(), 3);
        Check.due("undo of orders", stamp.undo(), 2);
        Check.same("undo", Stamps.stateInShort(stamp), before);
        stamp.doAll();
        stamp.exchange(1, 4);
        Check.due("restore", stamp.restore(), 7);
        Check.same("restore", Stamps.stateInShort(stamp), before);
    }

    /** A state brings its prints and its slips back, though others came in between. */
    private static void printsComeBack() {
        StampDater stamp = new StampDater();
        stamp.set(2, 1);
        stamp.turn(5, 9);
        stamp.press(7, 1);
        stamp.adjust(0);
        stamp.press(3, 1);
        stamp.pass(1);
        stamp.set(1, 60);
        stamp.fill(100);
        stamp.press(2, 1);
        stamp.set(0, 60);
        stamp.press(1, 1);
        Check.due("right in the midst", stamp.print(1, 4) * 100 + stamp.print(2, 4) * 10 + stamp.print(3, 4), 10);
        // 16 + 190 / 4 is 63: less 1 where the digit was printed once, less 3 where it was pressed by 7 too
        Check.due("smudged before", stamp.print(1, 3), 2 + 8 + 32);
        Check.due("faint at last", stamp.print(0, 2), 63);
        Check.due("a slip", stamp.count(7), 1);
        String before = Stamps.stateInShort(stamp) + Stamps.prints(stamp);
        Stamps.type(stamp, "+5;d311299;p9x9;a;p7x9");
        Check.due("orders", stamp.doAll(), 5);
        Check.due("more slips", stamp.count(7) > 1 ? 1 : 0, 1);
        Check.due("another print", stamp.print(0, 1), 6);
        Check.due("undo", stamp.undo(), 3);
        Check.same("undo", Stamps.stateInShort(stamp) + Stamps.prints(stamp), before);
    }

    // ---- errors

    private static void errors(Sentences terms) {
        terms.test("`UNKNOWN = -1`", () -> Check.due("UNKNOWN", StampDater.UNKNOWN, -1));
        terms.test("`BAD_VALUE = -2`", () -> Check.due("BAD_VALUE", StampDater.BAD_VALUE, -2));
        terms.test("`FULL = -3`", () -> Check.due("FULL", StampDater.FULL, -3));
        terms.test("`NONE = -5`", () -> Check.due("NONE", StampDater.NONE, -5));
        terms.test("Where several errors can apply, the order of the @return line is the order of the checks.",
                EdgesOfTermsTest::severalErrors);
        terms.test("NONE is no error; it is returned only if no error applies.", EdgesOfTermsTest::noneBehindErrors);
    }

    private static void severalErrors() {
        StampDater stamp = Stamps.onDay(Stamps.LAST_DAY);
        Check.due("pass: wrong, and beyond the last day", stamp.pass(1000), Check.BAD_VALUE);
        Check.due("turn: place and steps", stamp.turn(6, 0), Check.UNKNOWN);
        Check.due("turn: place and steps", stamp.turn(-1, -10), Check.UNKNOWN);
        Check.due("date: day and what", stamp.date(36525, 4), Check.UNKNOWN);
        Check.due("date: day and what", stamp.date(-1, -1), Check.UNKNOWN);
        Check.due("band: place and what", stamp.band(6, 7), Check.UNKNOWN);
        Check.due("wear: place and digit", stamp.wear(6, 10), Check.UNKNOWN);
        Check.due("print: print and what", stamp.print(12, 8), Check.UNKNOWN);
        Check.due("print: none yet, and what", stamp.print(0, 8), Check.UNKNOWN);
        Stamps.type(stamp, "+1;");
        Check.due("doAll: a fault, and beyond the last day", stamp.doAll(), -103);
    }

    private static void noneBehindErrors() {
        StampDater stamp = Stamps.onDay(Stamps.LAST_DAY);
        stamp.fill(200);
        Check.due("fill: full already", stamp.fill(200), Check.NONE);
        Check.due("fill: full already, and wrong", stamp.fill(201), Check.BAD_VALUE);
        Check.due("exchange: the same", stamp.exchange(5, 5), Check.NONE);
        Check.due("exchange: the same, but there is none", stamp.exchange(6, 6), Check.UNKNOWN);
        Check.due("tighten: no slack", stamp.tighten(5), Check.NONE);
        Check.due("tighten: no band", stamp.tighten(6), Check.UNKNOWN);
        Check.due("set: so already", stamp.set(0, 30), Check.NONE);
        Check.due("set: no such setting", stamp.set(3, 30), Check.BAD_VALUE);
        Check.due("day: no date", stamp.day(999999), Check.NONE);
        Check.due("day: too great", stamp.day(1000000), Check.BAD_VALUE);
        Check.due("lasts: up to the last day", stamp.lasts(1, 1), Check.NONE);
        Check.due("lasts: up to the last day, and wrong", stamp.lasts(1, 21), Check.BAD_VALUE);
        Check.due("bestExchange: none", stamp.bestExchange(1, 1), Check.NONE);
        Check.due("bestExchange: none, and wrong", stamp.bestExchange(0, 1), Check.BAD_VALUE);
    }
}
