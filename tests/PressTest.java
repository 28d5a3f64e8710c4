/** Promises 5 to 10, 20 to 23 and 25: pressing, mending, bands, prints. */
public final class PressTest {
    public static void main(String[] args) {
        pressArguments();
        pressWearsAndInks();
        pressFaintAndSmudged();
        pressSlips();
        pressRight();
        fill();
        exchange();
        tighten();
        replace();
        set();
        band();
        wear();
        print();
        printAgreements();
        rightOf();
        even();
        Check.end("PressTest");
    }

    private static void pressArguments() {
        StampDater stamp = new StampDater();
        for (int strength : new int[] {Check.MIN, -1, 0, 10, Check.MAX}) {
            Check.due("press(" + strength + ", 1)", stamp.press(strength, 1), -2);
        }
        for (int times : new int[] {Check.MIN, -1, 0, 100, Check.MAX}) {
            Check.due("press(5, " + times + ")", stamp.press(5, times), -2);
        }
        Check.due("nothing is printed", stamp.count(2) + stamp.count(11), 0);
        Check.due("press(9, 99)", stamp.press(9, 99), 0);
        Check.due("prints", stamp.count(2), 99);
        Check.due("one act", stamp.count(11), 1);
    }

    private static void pressWearsAndInks() {
        int[] wears = {1, 1, 1, 2, 2, 2, 2, 3, 3};
        for (int strength = 1; strength <= 9; strength++) {
            StampDater stamp = new StampDater();
            stamp.turn(2, 7);
            stamp.press(strength, 2);
            Check.due("wear of 0, strength " + strength, stamp.wear(0, 0), 2 * wears[strength - 1]);
            Check.due("wear of 7, strength " + strength, stamp.wear(2, 7), 2 * wears[strength - 1]);
            Check.due("no wear, strength " + strength, stamp.wear(2, 0) + stamp.wear(0, 1), 0);
            Check.due("ink, strength " + strength, stamp.count(1), 100 - 2 * strength);
        }
        StampDater stamp = new StampDater();
        stamp.press(8, 12);
        Check.due("ink 4", stamp.count(1), 4);
        stamp.press(5, 1);
        Check.due("ink at least", stamp.count(1), 0);
        stamp.press(9, 99);
        Check.due("wear at most", stamp.wear(3, 0), 99);
    }

    private static void pressFaintAndSmudged() {
        StampDater stamp = new StampDater();
        // the darkness is 8 + 100 / 4 = 33
        stamp.set(0, 33);
        stamp.press(1, 1);
        Check.due("33 is not faint", stamp.print(0, 2), 0);
        // the ink is 99 and the wear 1: 8 + 24 - 1 = 31
        stamp.turn(3, 1);
        stamp.set(0, 32);
        stamp.press(1, 1);
        Check.due("31 is faint but where a digit is not worn", stamp.print(0, 2), 63 - 8);
        Check.due("faint digits", stamp.count(4), 5);
        Check.due("smudged digits", stamp.count(5), 0);
        StampDater dark = new StampDater();
        dark.fill(100);
        dark.set(1, 122);
        dark.press(9, 1);
        Check.due("122 is not smudged", dark.print(0, 3), 0);
        // the ink is 191 and the wear 3: 72 + 47 - 3 = 116, and 119 without wear
        dark.turn(0, 1);
        dark.set(1, 118);
        dark.press(9, 1);
        Check.due("119 is smudged", dark.print(0, 3), 1);
        Check.due("not faint", dark.print(0, 2), 0);
        Check.due("smudged digits", dark.count(5), 1);
        Check.due("faint digits", dark.count(4), 0);
    }

    private static void pressSlips() {
        StampDater stamp = new StampDater();
        stamp.set(2, 9);
        stamp.turn(0, 9);
        stamp.turn(1, 8);
        stamp.turn(5, -9);
        stamp.press(6, 1);
        Check.due("no slip by 6", stamp.count(7), 0);
        stamp.press(7, 3);
        Check.due("slips once each", stamp.count(7), 2);
        Check.due("9 slips to 0", stamp.band(0, 1), 0);
        Check.due("8 of slack 8 stays", stamp.band(1, 1), 8);
        Check.due("1 slips to 2", stamp.band(5, 1), 2);
        Check.due("slack is gone", stamp.band(0, 2) + stamp.band(5, 2), 0);
        Check.due("slack stays", stamp.band(1, 2), 8);
        Check.due("no step", stamp.count(6), 26);
        Check.due("the print before the slip", stamp.print(2, 0), 980001);
        Check.due("the print behind the slip", stamp.print(1, 0), 80002);
        StampDater first = new StampDater();
        for (int time = 0; time < 4; time++) {
            first.turn(2, 9);
        }
        first.turn(2, 3);
        first.press(9, 1);
        Check.due("39 is not loose", first.count(7), 0);
        first.turn(2, 1);
        first.press(9, 1);
        Check.due("40 is loose", first.count(7), 1);
    }

    private static void pressRight() {
        StampDater stamp = new StampDater();
        stamp.adjust(0);
        Check.due("press(5, 2)", stamp.press(5, 2), 2);
        stamp.pass(1);
        Check.due("another day", stamp.press(5, 2), 0);
        stamp.adjust(1);
        Check.due("adjusted", stamp.press(5, 1), 1);
        stamp.set(0, 60);
        Check.due("faint ones", stamp.press(1, 1), 0);
        Check.due("right ones so far", stamp.count(3), 3);
        // a print that turns faint in the midst: with the ink goes the darkness
        StampDater fading = new StampDater();
        fading.adjust(0);
        fading.set(0, 30);
        // 8 + ink / 4 - wear: 33, 24 + 8 - 1 = 31, 24 + 8 - 2 = 30, 24 + 8 - 3 = 29
        Check.due("fading", fading.press(1, 9), 3);
        Check.due("fading faint", fading.count(4), 36);
        // slips in the midst
        StampDater slipping = new StampDater();
        slipping.set(2, 1);
        slipping.adjust(0);
        Check.due("right until it slips", slipping.press(7, 3), 1);
        Check.due("slipped", slipping.count(7), 2);
        Check.due("shows 020200", slipping.count(9), slipping.day(20200));
    }

    private static void fill() {
        StampDater stamp = new StampDater();
        for (int ink : new int[] {Check.MIN, -1, 0, 201, Check.MAX}) {
            Check.due("fill(" + ink + ")", stamp.fill(ink), -2);
        }
        Check.due("fill(1)", stamp.fill(1), 101);
        Check.due("fill(98)", stamp.fill(98), 199);
        Check.due("fill(200)", stamp.fill(200), 200);
        Check.due("fill(1) of 200", stamp.fill(1), -5);
        Check.due("fill(201) of 200", stamp.fill(201), -2);
        Check.due("three acts", stamp.count(11), 3);
        Check.due("ink", stamp.count(1), 200);
    }

    private static void exchange() {
        StampDater stamp = new StampDater();
        for (int place : new int[] {Check.MIN, -1, 6, Check.MAX}) {
            Check.due("exchange(" + place + ", 0)", stamp.exchange(place, 0), -1);
            Check.due("exchange(0, " + place + ")", stamp.exchange(0, place), -1);
            Check.due("exchange(" + place + ", same)", stamp.exchange(place, place), -1);
        }
        for (int place = 0; place < 6; place++) {
            Check.due("exchange with itself", stamp.exchange(place, place), -5);
        }
        Check.due("no acts", stamp.count(11), 0);
        stamp.turn(1, 4);
        stamp.turn(4, -2);
        stamp.press(4, 1);
        Check.due("exchange(1, 4)", stamp.exchange(1, 4), 4);
        Check.due("shown", stamp.band(1, 1) * 10 + stamp.band(4, 1), 84);
        Check.due("slack", stamp.band(1, 2) * 10 + stamp.band(4, 2), 24);
        Check.due("wears", stamp.wear(1, 8) * 10 + stamp.wear(4, 4), 22);
        Check.due("no wears", stamp.wear(1, 4) + stamp.wear(4, 8), 0);
        Check.due("exchange(4, 0)", stamp.exchange(4, 0), 0);
        Check.due("band 1 is in 0", stamp.band(0, 0), 1);
        Check.due("four acts are known", stamp.count(11), 4);
    }

    private static void tighten() {
        StampDater stamp = new StampDater();
        for (int place : new int[] {Check.MIN, -1, 6, Check.MAX}) {
            Check.due("tighten(" + place + ")", stamp.tighten(place), -1);
        }
        Check.due("tighten without slack", stamp.tighten(0), -5);
        stamp.turn(0, -7);
        stamp.press(1, 1);
        Check.due("tighten(0)", stamp.tighten(0), 7);
        Check.due("slack", stamp.band(0, 2), 0);
        Check.due("shown stays", stamp.band(0, 1), 3);
        Check.due("wear stays", stamp.wear(0, 3), 1);
        Check.due("tighten again", stamp.tighten(0), -5);
        Check.due("acts", stamp.count(11), 3);
    }

    private static void replace() {
        StampDater stamp = new StampDater();
        for (int place : new int[] {Check.MIN, -1, 6, Check.MAX}) {
            Check.due("replace(" + place + ")", stamp.replace(place), -1);
        }
        Check.due("replace a new one", stamp.replace(0), 0);
        Check.due("an act", stamp.count(11), 1);
        stamp.exchange(2, 3);
        stamp.turn(2, 3);
        stamp.press(9, 2);
        stamp.turn(2, 1);
        stamp.press(4, 1);
        Check.due("replace(2)", stamp.replace(2), 8);
        Check.due("the number stays", stamp.band(2, 0), 3);
        Check.due("new", stamp.band(2, 1) + stamp.band(2, 2) + stamp.band(2, 3), 0);
        Check.due("the other stays", stamp.wear(3, 0), 8);
        stamp.undo();
        Check.due("the old one again", stamp.wear(2, 3) * 100 + stamp.wear(2, 4) * 10 + stamp.band(2, 2), 624);
    }

    private static void set() {
        StampDater stamp = new StampDater();
        int[] least = {10, 60, 1};
        int[] most = {60, 150, 99};
        int[] first = {30, 100, 40};
        for (int which : new int[] {Check.MIN, -1, 3, Check.MAX}) {
            Check.due("set(" + which + ", 60)", stamp.set(which, 60), -2);
        }
        for (int which = 0; which < 3; which++) {
            for (int value : new int[] {Check.MIN, least[which] - 1, most[which] + 1, Check.MAX}) {
                Check.due("set(" + which + ", " + value + ")", stamp.set(which, value), -2);
            }
            Check.due("set as it is", stamp.set(which, first[which]), -5);
            Check.due("no act", stamp.count(11), 0);
            Check.due("set to the least", stamp.set(which, least[which]), first[which]);
            Check.due("set to the most", stamp.set(which, most[which]), least[which]);
            Check.due("set now", stamp.count(13 + which), most[which]);
            Check.due("acts", stamp.count(11), 2);
            stamp.undo();
            stamp.undo();
            Check.due("set before", stamp.count(13 + which), first[which]);
        }
    }

    private static void band() {
        StampDater stamp = new StampDater();
        for (int place : new int[] {Check.MIN, -1, 6, Check.MAX}) {
            Check.due("band(" + place + ", 0)", stamp.band(place, 0), -1);
            Check.due("band(" + place + ", 9)", stamp.band(place, 9), -1);
        }
        for (int what : new int[] {Check.MIN, -1, 7, Check.MAX}) {
            Check.due("band(0, " + what + ")", stamp.band(0, what), -2);
        }
        stamp.turn(3, 4);
        stamp.press(1, 2);
        stamp.turn(3, 2);
        stamp.press(1, 2);
        stamp.turn(3, 1);
        stamp.press(1, 1);
        int[] told = {3, 7, 7, 2, 0, 4, 40 + 23 - 1 + 100};
        for (int what = 0; what < told.length; what++) {
            Check.due("band(3, " + what + ")", stamp.band(3, what), told[what]);
        }
        for (int digit = 0; digit <= 9; digit++) {
            stamp.turn(3, digit == 0 ? 3 : 1);
            stamp.press(1, digit == 9 ? 5 : 3);
        }
        // 4: 2 + 3, 6: 2 + 3, 7: 1 + 3, 9: 5
        Check.due("the least wear", stamp.band(3, 4), 3);
        Check.due("the greatest wear", stamp.band(3, 3), 5);
        Check.due("the lowest of the most worn ones", stamp.band(3, 5), 4);
        darknessOfTheMostWorn();
    }

    private static void darknessOfTheMostWorn() {
        StampDater stamp = new StampDater();
        stamp.press(9, 99);
        Check.due("least darkness", stamp.band(0, 6), 40 - 99 + 100);
        stamp.fill(200);
        stamp.turn(0, 1);
        Check.due("greatest darkness", stamp.band(0, 6), 40 + 50 + 100);
    }

    private static void wear() {
        StampDater stamp = new StampDater();
        for (int place : new int[] {Check.MIN, -1, 6, Check.MAX}) {
            Check.due("wear(" + place + ", 0)", stamp.wear(place, 0), -1);
            Check.due("wear(" + place + ", 10)", stamp.wear(place, 10), -1);
        }
        for (int digit : new int[] {Check.MIN, -1, 10, Check.MAX}) {
            Check.due("wear(0, " + digit + ")", stamp.wear(0, digit), -2);
        }
        stamp.turn(5, 9);
        stamp.press(8, 1);
        Check.due("wear(5, 9)", stamp.wear(5, 9), 3);
        Check.due("wear(5, 0)", stamp.wear(5, 0), 0);
        Check.due("wear(4, 0)", stamp.wear(4, 0), 3);
    }

    private static void print() {
        StampDater stamp = new StampDater();
        Check.due("no print", stamp.print(0, 0), -1);
        Check.due("no print, no such thing", stamp.print(0, 8), -1);
        stamp.adjust(0);
        stamp.press(2, 1);
        Check.due("one print", stamp.print(0, 0), 10100);
        Check.due("no second", stamp.print(1, 0), -1);
        for (int print : new int[] {Check.MIN, -1, 12, Check.MAX}) {
            Check.due("print(" + print + ", 0)", stamp.print(print, 0), -1);
        }
        for (int what : new int[] {Check.MIN, -1, 8, Check.MAX}) {
            Check.due("print(0, " + what + ")", stamp.print(0, what), -2);
        }
        stamp.pass(3);
        stamp.adjust(3);
        for (int strength = 1; strength <= 9; strength++) {
            stamp.press(strength, 1);
        }
        stamp.fill(200);
        stamp.press(3, 2);
        Check.due("the first is known yet", stamp.print(11, 0), 10100);
        Check.due("its day", stamp.print(11, 1), 0);
        Check.due("its strength", stamp.print(11, 5), 2);
        stamp.press(4, 1);
        Check.due("it is not known any more", stamp.print(11, 0), 40100);
        Check.due("a thirteenth is not known", stamp.print(12, 0), -1);
        Check.due("the strength of the latest", stamp.print(0, 5), 4);
        Check.due("the day of the latest", stamp.print(0, 1), 3);
        for (int strength = 1; strength <= 9; strength++) {
            Check.due("strength " + strength, stamp.print(12 - strength, 5), strength);
        }
        Check.due("right", stamp.print(10, 4), 1);
        Check.due("prints", stamp.count(2), 13);
    }

    private static void printAgreements() {
        StampDater stamp = new StampDater();
        stamp.set(0, 60);
        // 2902 with the years faint: 25 leap years; the wear of what shows 0 makes it faint
        stamp.press(6, 3);
        stamp.turn(0, 2);
        stamp.turn(1, -1);
        stamp.turn(3, 2);
        stamp.press(6, 1);
        // 48 + 82 / 4 - 6 = 62 and the new digits 68; then 48 + 76 / 4 - 8 = 59 and 65
        stamp.press(6, 1);
        Check.due("faint zeros", stamp.print(0, 2), 4 + 16 + 32);
        Check.due("29 of a month that ends with 2", stamp.print(0, 6), 25 + 100);
        Check.due("the first of them", stamp.print(0, 7), 59);
        Check.due("all clear: 290200", stamp.print(1, 6), 1);
        Check.due("the day", stamp.print(1, 7), 59);
        onesAndTens();
        StampDater none = new StampDater();
        none.press(5, 1);
        Check.due("000000 is no date", none.print(0, 6), 0);
        Check.due("so there is no first", none.print(0, 7), -5);
        none.adjust(36524);
        none.press(5, 1);
        Check.due("one day agrees", none.print(0, 6), 1);
        Check.due("the last one", none.print(0, 7), 36524);
        Check.due("not right", none.print(0, 4), 0);
        none.set(1, 60);
        none.press(9, 1);
        Check.due("all smudged", none.print(0, 3), 63);
        Check.due("all days agree", none.print(0, 6), 36525);
        Check.due("the first day", none.print(0, 7), 0);
        smudgedYears();
    }

    /** A stamp that shows 311299 with worn digits, but for one band: its digit is smudged by the strength 5. */
    private static StampDater smudgedIn(int place) {
        StampDater stamp = new StampDater();
        stamp.fill(100);
        stamp.adjust(36524);
        stamp.press(5, 5);
        stamp.fill(200);
        // 40 + 50 - 10 is clear, 40 + 50 is smudged
        stamp.set(1, 80);
        stamp.replace(place);
        stamp.adjust(36524);
        return stamp;
    }

    private static void onesAndTens() {
        int[] days = {4, 2, 1, 2, 10, 10};
        int[] first = {1, 30, 12, 10, 9, 90};
        for (int place = 0; place < 6; place++) {
            StampDater stamp = smudgedIn(place);
            stamp.press(5, 1);
            Check.due("smudged in " + place, stamp.print(0, 3), 1 << place);
            Check.due("days without the place " + place, stamp.print(0, 6), days[place]);
            Check.due("the first one", stamp.date(stamp.print(0, 7), place / 2), first[place]);
            stamp.press(5, 8);
            Check.due("none is smudged any more", stamp.print(0, 3), 0);
        }
    }

    private static void smudgedYears() {
        StampDater tens = new StampDater();
        tens.adjust(tens.day(290204));
        tens.press(4, 9);
        tens.replace(4);
        tens.fill(200);
        tens.set(1, 70);
        // 32 + 50 = 82 for the new band, 82 - 18 = 64 for the others
        tens.press(4, 1);
        Check.due("the tens are smudged", tens.print(0, 3), 16);
        Check.due("290204, 24, 44, 64 and 84", tens.print(0, 6), 5);
        Check.due("the first of them", tens.print(0, 7), tens.day(290204));
        tens.turn(5, 1);
        tens.replace(5);
        tens.turn(5, 5);
        tens.press(4, 1);
        Check.due("29.02. with a year that is no leap year", tens.print(0, 0), 290205);
        Check.due("the year is smudged", tens.print(0, 3), 16 + 32);
        Check.due("all leap years", tens.print(0, 6), 25);
        Check.due("the first leap year", tens.print(0, 7), 59);
    }

    private static void rightOf() {
        StampDater stamp = new StampDater();
        for (int day : new int[] {Check.MIN, -1, 36525, Check.MAX}) {
            Check.due("rightOf(" + day + ")", stamp.rightOf(day), -1);
        }
        stamp.fill(100);
        stamp.set(0, 10);
        stamp.adjust(0);
        stamp.press(2, 20);
        stamp.press(2, 1);
        stamp.pass(5);
        stamp.press(2, 3);
        Check.due("without right ones", stamp.rightOf(5), 0);
        stamp.adjust(5);
        stamp.press(2, 4);
        stamp.press(2, 2);
        Check.due("more than are known", stamp.rightOf(0), 21);
        Check.due("two acts", stamp.rightOf(5), 6);
        Check.due("between", stamp.rightOf(3), 0);
        Check.due("later", stamp.rightOf(6), 0);
        Check.due("days with right ones", stamp.count(10), 2);
        stamp.undo();
        Check.due("before", stamp.rightOf(5), 4);
        stamp.undo();
        Check.due("before that", stamp.rightOf(5) + stamp.count(10), 1);
        stamp.press(2, 1);
        Check.due("again", stamp.rightOf(5), 1);
        Check.due("the first day stays", stamp.rightOf(0), 21);
    }

    private static void even() {
        StampDater stamp = new StampDater();
        stamp.press(1, 1);
        Check.due("six of sixty", stamp.even(), 6 / 60.0 / 1);
        stamp.turn(0, 1);
        stamp.press(4, 3);
        Check.due("even()", stamp.even(), (1 + 6 + 5 * 7) / 60.0 / 7);
        stamp.press(9, 99);
        Check.due("even() at most", stamp.even(), (1 + 99 * 6) / 60.0 / 99);
        for (int place = 0; place < 6; place++) {
            stamp.replace(place);
        }
        Check.due("even() of new ones", stamp.even(), 1.0);
    }
}
