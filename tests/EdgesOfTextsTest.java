import java.io.IOException;
import java.time.LocalDate;
import java.util.HashSet;
import java.util.Set;

/** The sentences of "Terms" about texts, and of the promises 11 to 14; a test for each. */
public final class EdgesOfTextsTest {
    private static final String DIGITS = "0123456789";

    public static void main(String[] args) throws IOException {
        Sentences texts = new Sentences("EdgesOfTextsTest");
        length(texts);
        orders(texts);
        numbers(texts);
        dates(texts);
        faults(texts);
        doAll(texts);
        texts.end();
    }

    private static void fault(String text, int want) {
        StampDater stamp = Stamps.withText(text);
        Check.due("fault of \"" + text + "\"", stamp.fault(), want);
    }

    /** Behind a text just the characters of a set are allowed, of all those from 0 to 255 and of some above. */
    private static void allowed(String text, String characters) {
        for (int character = 0; character <= 255; character++) {
            allowed(text, (char) character, characters);
        }
        for (int index = 0; index < characters.length(); index++) {
            allowed(text, (char) (256 + characters.charAt(index)), characters);
        }
    }

    private static void allowed(String text, char character, String characters) {
        StampDater stamp = Stamps.withText(text);
        stamp.type(character);
        boolean isAllowed = stamp.fault() != text.length();
        Check.due("\"" + text + "\", then " + (int) character, isAllowed ? 1 : 0, characters.indexOf(character) >= 0 ? 1 : 0);
    }

    // ---- type, clearText

    private static void length(Sentences texts) {
        texts.test("There is a text of at most 60 characters, empty at first.", () -> {
            StampDater stamp = new StampDater();
            Check.due("length at first", stamp.count(12), 0);
            Check.due("nothing to clear", stamp.clearText(), 0);
            StampDater full = Stamps.withText("a;".repeat(29) + "p");
            Check.due("59", full.count(12), 59);
            Check.due("the sixtieth", full.type('9'), 60);
            Check.due("one more", full.type(';'), Check.FULL);
            Check.due("all sixty are read", full.fault(), Check.NONE);
            Check.due("all sixty are done", full.doAll(), 30);
        });
        texts.test("Appends a character to the text.", () -> {
            StampDater stamp = Stamps.withText("+9");
            stamp.type('8');
            stamp.doAll();
            Check.due("in this order", stamp.count(0), 98);
        });
        texts.test("`character`: any character", () -> {
            char[] characters = {0, 1, '\n', ' ', 127, 128, 255, 256, (char) 0x20ac, Character.MIN_SURROGATE, Character.MAX_VALUE};
            StampDater stamp = new StampDater();
            for (int typed = 0; typed < characters.length; typed++) {
                Check.due("type " + (int) characters[typed], stamp.type(characters[typed]), typed + 1);
            }
        });
        texts.test("Returns the length then; FULL if it has 60 characters.", () -> {
            StampDater stamp = new StampDater();
            for (int typed = 1; typed <= 60; typed++) {
                Check.due("type", stamp.type('x'), typed);
            }
            Check.due("type the next", stamp.type('x'), Check.FULL);
            Check.due("type any other", stamp.type((char) 0), Check.FULL);
            Check.due("60 stay", stamp.count(12), 60);
            stamp.clearText();
            Check.due("there is room again", stamp.type('x'), 1);
        });
        texts.test("Empties the text.", () -> {
            StampDater stamp = Stamps.withText("+1");
            stamp.clearText();
            Check.due("length", stamp.count(12), 0);
            Check.due("fault", stamp.fault(), 0);
            stamp.type('a');
            Check.due("nothing of it is left", stamp.fault(), Check.NONE);
        });
        texts.test("Returns the length that it had.", () -> {
            Check.due("clearText of 60", Stamps.withText("a".repeat(60)).clearText(), 60);
            StampDater one = Stamps.withText("a");
            Check.due("clearText of 1", one.clearText(), 1);
            Check.due("clearText again", one.clearText(), 0);
        });
    }

    // ---- orders

    private static void orders(Sentences texts) {
        texts.test("A text of orders is one or more orders with \";\" between two", () -> {
            fault("", 0);
            fault("a", Check.NONE);
            fault("a;a", Check.NONE);
            fault("a;".repeat(29) + "a", Check.NONE);
            fault("a;", 2);
            fault(";", 0);
            fault(";a", 0);
            fault("a;;a", 2);
            fault("aa", 1);
            fault("a,a", 1);
            allowed("", "dap+i");
            allowed("a;", "dap+i");
            allowed("a", ";");
        });
        texts.test("\"d\" and six digits, a date that there is: the stamp is adjusted to it", () -> {
            fault("d010100", Check.NONE);
            fault("d311299", Check.NONE);
            fault("d01010", 6);
            fault("d", 1);
            allowed("d010100", ";");
            StampDater stamp = Stamps.withText("d311299;d010100;d290296");
            Check.due("doAll", stamp.doAll(), 3);
            Check.due("the last one shows", stamp.count(9), stamp.day(290296));
            Check.due("today stays", stamp.count(0), 0);
        });
        texts.test("\"a\": it is adjusted to today", () -> {
            StampDater stamp = Stamps.withText("a");
            stamp.pass(40);
            Check.due("doAll", stamp.doAll(), 1);
            Check.due("today shows", stamp.count(9), 40);
        });
        texts.test("\"p\" and a strength (1 to 9), perhaps \"x\" and a number (1 to 99): it is pressed, so many times (once if "
                + "not told)", EdgesOfTextsTest::pressOrders);
        texts.test("\"+\" and a number (1 to 999): so many days pass", () -> {
            allowed("+", "123456789");
            allowed("+1", DIGITS + ";");
            allowed("+99", DIGITS + ";");
            allowed("+100", ";");
            allowed("+999", ";");
            Check.due("+1", doneOf("+1").count(0), 1);
            Check.due("+999", doneOf("+999").count(0), 999);
            Check.due("the stamp stays", doneOf("+999").band(5, 1), 0);
        });
        texts.test("\"i\" and a number (1 to 200): so much ink is filled in", () -> {
            allowed("i", "123456789");
            allowed("i1", DIGITS + ";");
            allowed("i2", DIGITS + ";");
            allowed("i3", DIGITS + ";");
            allowed("i19", DIGITS + ";");
            allowed("i20", "0;");
            allowed("i21", ";");
            allowed("i99", ";");
            allowed("i199", ";");
            allowed("i200", ";");
            Check.due("i1", doneOf("i1").count(1), 101);
            Check.due("i99", doneOf("i99").count(1), 199);
            Check.due("i100", doneOf("i100").count(1), 200);
            Check.due("i200", doneOf("i200").count(1), 200);
            Check.due("i200 of none", doneOf("p9x12;i200").count(1), 200);
            Check.due("i199 of none", doneOf("p9x12;i199").count(1), 199);
        });
    }

    private static StampDater doneOf(String text) {
        StampDater stamp = Stamps.withText(text);
        Check.due("doAll of " + text + " is done", stamp.doAll() >= 1 ? 1 : 0, 1);
        return stamp;
    }

    private static void pressOrders() {
        allowed("p", "123456789");
        for (char strength = '1'; strength <= '9'; strength++) {
            allowed("p" + strength, "x;");
            Check.due("strength " + strength, doneOf("p" + strength).print(0, 5), strength - '0');
            Check.due("once", doneOf("p" + strength).count(2), 1);
        }
        allowed("p1x", "123456789");
        allowed("p1x1", DIGITS + ";");
        allowed("p1x9", DIGITS + ";");
        allowed("p1x10", ";");
        allowed("p1x99", ";");
        Check.due("p2x1", doneOf("p2x1").count(2), 1);
        Check.due("p2x99", doneOf("p2x99").count(2), 99);
        Check.due("the strength of p2x99", doneOf("p2x99").print(0, 5), 2);
        Check.due("once behind more", doneOf("p3x5;p4").count(2), 6);
    }

    private static void numbers(Sentences texts) {
        texts.test("Numbers have no zero in front", () -> {
            fault("p0", 1);
            fault("p1x0", 3);
            fault("p1x01", 3);
            fault("+0", 1);
            fault("+01", 1);
            fault("i0", 1);
            fault("i01", 1);
            fault("+10", Check.NONE);
            fault("i100", Check.NONE);
            fault("p1x10", Check.NONE);
        });
        texts.test("a digit by which a number would be greater than told is not allowed", () -> {
            fault("p9", Check.NONE);
            fault("p10", 2);
            fault("p99", 2);
            fault("p1x99", Check.NONE);
            fault("p1x100", 5);
            fault("p1x990", 5);
            fault("+999", Check.NONE);
            fault("+1000", 4);
            fault("+9999", 4);
            fault("i200", Check.NONE);
            fault("i201", 3);
            fault("i209", 3);
            fault("i210", 3);
            fault("i999", 3);
            fault("i2000", 4);
        });
    }

    // ---- dates

    private static void dates(Sentences texts) {
        texts.test("Of a date, the day of the month is two digits 01 to 31", () -> {
            allowed("d", "0123");
            allowed("d0", "123456789");
            allowed("d1", DIGITS);
            allowed("d2", DIGITS);
            allowed("d3", "01");
        });
        texts.test("then the month 01 to 12 so that this day is one that the month can have (29 for the month 02)",
                EdgesOfTextsTest::months);
        texts.test("2902 is followed only by years divisible by 4", () -> {
            allowed("d2902", DIGITS);
            for (int tens = 0; tens <= 9; tens++) {
                allowed("d2902" + tens, tens % 2 == 0 ? "048" : "26");
                allowed("d2802" + tens, DIGITS);
                allowed("d2901" + tens, DIGITS);
                allowed("d2903" + tens, DIGITS);
            }
            fault("d290200", Check.NONE);
            fault("d290296", Check.NONE);
            fault("d290299", 6);
        });
        texts.test("(a digit is allowed if some date begins so)", EdgesOfTextsTest::allBeginnings);
    }

    private static void months() {
        allowed("d01", "01");
        allowed("d28", "01");
        allowed("d31", "01");
        allowed("d010", "123456789");
        allowed("d280", "123456789");
        allowed("d290", "123456789");
        allowed("d300", "13456789");
        allowed("d310", "13578");
        allowed("d011", "012");
        allowed("d301", "012");
        allowed("d311", "02");
        fault("d2902", 5);
        fault("d3002", 4);
        fault("d3102", 4);
        fault("d3104", 4);
        fault("d3106", 4);
        fault("d3109", 4);
        fault("d3111", 4);
        fault("d0100", 4);
        fault("d0113", 4);
    }

    /** Each four digits, with the years 00, 01, 52 and 99 behind them. */
    private static void allBeginnings() {
        Set<String> beginnings = new HashSet<>();
        LocalDate first = LocalDate.of(2000, 1, 1);
        for (int day = 0; day <= Stamps.LAST_DAY; day++) {
            LocalDate date = first.plusDays(day);
            String digits = String.format("%02d%02d%02d", date.getDayOfMonth(), date.getMonthValue(), date.getYear() - 2000);
            for (int length = 1; length <= 6; length++) {
                beginnings.add(digits.substring(0, length));
            }
        }
        for (int four = 0; four <= 9999; four++) {
            for (String year : new String[] {"00", "01", "52", "99"}) {
                String digits = String.format("%04d", four) + year;
                int length = 1;
                while (length <= 6 && beginnings.contains(digits.substring(0, length))) {
                    length++;
                }
                fault("d" + digits, length == 7 ? Check.NONE : length);
            }
        }
    }

    // ---- fault

    private static void faults(Sentences texts) {
        texts.test("The fault of the text is the index, from 0, of the first character that is not allowed at its place",
                EdgesOfTextsTest::firstFault);
        texts.test("or the length of the text if it ends too early (the empty text does)", () -> {
            String text = "d290200;p1x2;+3;i4";
            int[] whole = {7, 10, 12, 15, 18};
            for (int length = 0; length <= text.length(); length++) {
                boolean isWhole = java.util.Arrays.binarySearch(whole, length) >= 0;
                fault(text.substring(0, length), isWhole ? Check.NONE : length);
            }
            fault("a;".repeat(30), 60);
            fault("a;".repeat(28) + "p1x;", 59);
            fault("a;".repeat(28) + "p1;+", 60);
        });
        texts.test("Returns the index; NONE if it has none.", () -> {
            StampDater stamp = new StampDater();
            Check.due("fault of nothing", stamp.fault(), 0);
            stamp.type('p');
            Check.due("fault of \"p\"", stamp.fault(), 1);
            stamp.type('1');
            Check.due("no fault", stamp.fault(), Check.NONE);
            Check.due("no fault again", stamp.fault(), Check.NONE);
            stamp.type('1');
            Check.due("fault of \"p11\"", stamp.fault(), 2);
        });
    }

    private static void firstFault() {
        StampDater stamp = new StampDater();
        for (int character = 0; character <= Character.MAX_VALUE; character++) {
            if (character % 100 == 0) {
                stamp = new StampDater();
            }
            stamp.clearText();
            stamp.type((char) character);
            int want = character == 'a' ? Check.NONE : "dp+i".indexOf((char) character) >= 0 ? 1 : 0;
            Check.due("fault of " + character, stamp.fault(), want);
        }
        fault("a;?;?", 2);
        fault("?a", 0);
        fault("a;p1x2?", 6);
        fault("a;".repeat(29) + "a?", 59);
        fault("d01 100", 3);
        fault("d-10100", 1);
        fault("+ 1", 1);
        fault("+1 ", 2);
        fault("P1", 0);
        fault("p1X2", 2);
    }

    // ---- doAll

    private static void doAll(Sentences texts) {
        texts.test("Does the orders of the text, which stays, one after the other; all of them or none.",
                EdgesOfTextsTest::allOrNone);
        texts.test("This is one act.", "doAll", () -> {
            StampDater stamp = Stamps.withText("a;p1x2;+3;i4;a");
            stamp.doAll();
            Check.due("one state", stamp.count(11), 1);
            Check.due("undo takes all back", stamp.undo() + stamp.count(0) + stamp.count(2) + stamp.count(6), 0);
            Check.due("the ink too", stamp.count(1), 100);
        });
        texts.test("Returns how many orders the text has; -100 minus the fault of the text if it has one (which is an error); "
                + "FULL if days would pass beyond 36524.", EdgesOfTextsTest::answersOfDoAll);
        texts.test("(Ink that is full already is no hindrance.)", () -> {
            StampDater stamp = Stamps.withText("i200;i1;i200;+1");
            stamp.fill(200);
            Check.due("doAll", stamp.doAll(), 4);
            Check.due("ink", stamp.count(1), 200);
            Check.due("what is behind it is done", stamp.count(0), 1);
            Check.due("an act", stamp.count(11), 2);
        });
    }

    private static void allOrNone() {
        StampDater stamp = Stamps.withText("+1;a;p1");
        Check.due("doAll", stamp.doAll(), 3);
        Check.due("adjusted behind the day, printed behind that", stamp.print(0, 0), 20100);
        Check.due("and right", stamp.rightOf(1), 1);
        Check.due("the text stays", stamp.count(12), 7);
        Check.due("doAll again", stamp.doAll(), 3);
        Check.due("the next day", stamp.rightOf(2), 1);
        Stamps.type(stamp, "p1;+1;p0");
        Check.due("a fault in the last order", stamp.doAll(), -107);
        Check.due("no print", stamp.count(2), 2);
        Check.due("no day", stamp.count(0), 2);
        Check.due("the text stays", stamp.count(12), 8);
        StampDater late = Stamps.onDay(Stamps.LAST_DAY - 1);
        Stamps.type(late, "p1;+1;a;+1");
        Check.due("too many days in the last order", late.doAll(), Check.FULL);
        Check.due("no print", late.count(2), 0);
        Check.due("no day", late.count(0), Stamps.LAST_DAY - 1);
        Check.due("no step", late.count(6), 0);
        Check.due("the text stays", late.count(12), 10);
    }

    private static void answersOfDoAll() {
        Check.due("one order", Stamps.withText("a").doAll(), 1);
        Check.due("30 orders", Stamps.withText("a;".repeat(29) + "p1").doAll(), 30);
        Check.due("an order without effect", doneOf("d010100;d010100").doAll(), 2);
        Check.due("the empty text", new StampDater().doAll(), -100);
        Check.due("the fault 1", Stamps.withText("p").doAll(), -101);
        Check.due("the fault 59", Stamps.withText("a;".repeat(29) + "aa").doAll(), -159);
        Check.due("the fault 60", Stamps.withText("a;".repeat(30)).doAll(), -160);
        StampDater late = Stamps.onDay(Stamps.LAST_DAY - 999);
        Stamps.type(late, "+998;+2");
        Check.due("36525", late.doAll(), Check.FULL);
        Stamps.type(late, "+999;+1");
        Check.due("36525 by one", late.doAll(), Check.FULL);
        Stamps.type(late, "+999;+1;");
        Check.due("a fault is told first", late.doAll(), -108);
        Stamps.type(late, "+998;+1");
        Check.due("36524", late.doAll(), 2);
        Check.due("the last day", late.count(0), Stamps.LAST_DAY);
        Stamps.type(late, "a;p1;i1");
        Check.due("without days", late.doAll(), 3);
        Stamps.type(late, "+1");
        Check.due("behind the last day", late.doAll(), Check.FULL);
    }
}
