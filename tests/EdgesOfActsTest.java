import java.io.IOException;

/** The sentences of the promises 1 to 10 and 15 to 17 that name an edge; a test for each. */
public final class EdgesOfActsTest {
    public static void main(String[] args) throws IOException {
        Sentences acts = new Sentences("EdgesOfActsTest");
        newObject(acts);
        pass(acts);
        adjust(acts);
        turn(acts);
        press(acts);
        fill(acts);
        exchange(acts);
        tighten(acts);
        replace(acts);
        set(acts);
        undo(acts);
        keepAndRestore(acts);
        acts.end();
    }

    private static void newObject(Sentences acts) {
        acts.test("Creates a stamp that shows 000000, on the day 0.", () -> {
            StampDater stamp = new StampDater();
            for (int place = 0; place < 6; place++) {
                Check.due("shown in " + place, stamp.band(place, 1), 0);
            }
            int[] counts = {0, 100, 0, 0, 0, 0, 0, 0, 0, Check.NONE, 0, 0, 0, 30, 100, 40};
            for (int what = 0; what < counts.length; what++) {
                Check.due("count(" + what + ")", stamp.count(what), counts[what]);
            }
            Check.due("no print is known", stamp.print(0, 0), Check.UNKNOWN);
            stamp.pass(5);
            Check.due("another one is not on the day 5", new StampDater().count(0), 0);
        });
    }

    private static void pass(Sentences acts) {
        acts.test("Lets days pass; the stamp stays as it is. This is an act.", () -> {
            StampDater stamp = new StampDater();
            stamp.adjust(0);
            Check.due("today shows", stamp.count(8), 1);
            stamp.pass(1);
            Check.due("the day 0 shows", stamp.count(9), 0);
            Check.due("today does not show", stamp.count(8), 0);
            Check.due("steps", stamp.count(6), 2);
            Check.due("acts", stamp.count(11), 2);
        });
        acts.test("- `days`: 1 to 999", () ->
                Range.test("pass", 1, 999, Check.BAD_VALUE, days -> new StampDater().pass(days)));
        acts.test("Returns the day of today then; BAD_VALUE; FULL if it would be more than 36524.", () -> {
            StampDater stamp = new StampDater();
            Check.due("pass(1)", stamp.pass(1), 1);
            Check.due("pass(999)", stamp.pass(999), 1000);
            Check.due("today", stamp.count(0), 1000);
            StampDater late = Stamps.onDay(Stamps.LAST_DAY - 999);
            Check.due("too wide and beyond", late.pass(1000), Check.BAD_VALUE);
            Check.due("to the last day at once", late.pass(999), Stamps.LAST_DAY);
            Check.due("one more", late.pass(1), Check.FULL);
            Check.due("999 more", late.pass(999), Check.FULL);
            Check.due("none", late.pass(0), Check.BAD_VALUE);
            StampDater before = Stamps.onDay(Stamps.LAST_DAY - 1);
            Check.due("36525", before.pass(2), Check.FULL);
            Check.due("36524", before.pass(1), Stamps.LAST_DAY);
        });
    }

    private static void adjust(Sentences acts) {
        acts.test("Adjusts the stamp to a day. This is an act, also if it shows that date already.", () -> {
            StampDater stamp = new StampDater();
            Check.due("adjust", stamp.adjust(36524), 3 + 1 + 1 + 2 + 1 + 1);
            Check.due("shown", stamp.count(9), 36524);
            Check.due("again", stamp.adjust(36524), 0);
            Check.due("two acts", stamp.count(11), 2);
            Check.due("no more steps", stamp.count(6), 9);
        });
        acts.test("- `day`: 0 to 36524", "adjust", () ->
                Range.test("adjust", 0, Stamps.LAST_DAY, Check.UNKNOWN, day -> new StampDater().adjust(day)));
        acts.test("Returns how many steps the bands turn; UNKNOWN.", () -> {
            Check.due("a day that there is not", new StampDater().adjust(36525), Check.UNKNOWN);
            // 5 steps to 5, 4 back to 6, 3 back to 7
            StampDater stamp = new StampDater();
            Check.due("adjust to 050607", stamp.adjust(stamp.day(50607)), 5 + 4 + 3);
            Check.due("as many are counted", stamp.count(6), 12);
        });
    }

    private static void turn(Sentences acts) {
        acts.test("Turns the band in a place (each step makes its slack 1 more, and counts as a step). This is an act.", () -> {
            StampDater stamp = new StampDater();
            stamp.turn(2, 9);
            stamp.turn(2, -9);
            Check.due("slack", stamp.band(2, 2), 18);
            Check.due("steps", stamp.count(6), 18);
            Check.due("acts", stamp.count(11), 2);
            for (int time = 0; time < 10; time++) {
                stamp.turn(2, 9);
            }
            Check.due("slack stays at 99", stamp.band(2, 2), 99);
            Check.due("steps go on", stamp.count(6), 108);
        });
        acts.test("- `place`: 0 to 5", "turn", () ->
                Range.test("turn's place", 0, 5, Check.UNKNOWN, place -> new StampDater().turn(place, 1)));
        acts.test("- `steps`: -9 to 9, not 0: forward, or back if below 0", () -> {
            Range.outside("turn", -9, 9, Check.BAD_VALUE, steps -> new StampDater().turn(0, steps));
            Check.due("turn(0, 0)", new StampDater().turn(0, 0), Check.BAD_VALUE);
            for (int steps = 1; steps <= 9; steps++) {
                Check.due("forward by " + steps, new StampDater().turn(3, steps), steps);
                Check.due("back by " + steps, new StampDater().turn(3, -steps), 10 - steps);
            }
        });
        acts.test("Returns the digit that it shows then; UNKNOWN; BAD_VALUE.", () -> {
            Range.outside("turn's place, steps 0", 0, 5, Check.UNKNOWN, place -> new StampDater().turn(place, 0));
            Range.outside("turn's place, steps 10", 0, 5, Check.UNKNOWN, place -> new StampDater().turn(place, 10));
            StampDater stamp = new StampDater();
            Check.due("on from 9 to 0", stamp.turn(5, 9) + stamp.turn(5, 1), 9);
            Check.due("back from 0 to 9", stamp.turn(5, -1), 9);
        });
    }

    private static void press(Sentences acts) {
        acts.test("Presses the stamp. This is an act.", () -> {
            StampDater stamp = new StampDater();
            stamp.press(1, 99);
            Check.due("one act", stamp.count(11), 1);
            Check.due("99 prints", stamp.count(2), 99);
            Check.due("undo", stamp.undo() + stamp.count(2), 0);
        });
        acts.test("- `strength`: 1 to 9", "press", () ->
                Range.test("press", 1, 9, Check.BAD_VALUE, strength -> new StampDater().press(strength, 1)));
        acts.test("- `times`: 1 to 99", "press", () ->
                Range.test("press", 1, 99, Check.BAD_VALUE, times -> new StampDater().press(1, times)));
        acts.test("Returns how many of these prints are right; BAD_VALUE.", () -> {
            StampDater stamp = new StampDater();
            Check.due("another date", stamp.press(1, 1), 0);
            stamp.replace(1);
            stamp.replace(3);
            stamp.adjust(0);
            // 8 + 24 - 1, 8 + 24 - 2, 8 + 24 - 3 is faint
            Check.due("until it is faint", stamp.press(1, 5), 2);
            Check.due("of these prints alone", stamp.press(1, 1), 0);
            Check.due("right so far", stamp.count(3), 2);
            Check.due("both wrong", stamp.press(0, 0), Check.BAD_VALUE);
            Check.due("both too great", stamp.press(10, 100), Check.BAD_VALUE);
            StampDater all = new StampDater();
            all.fill(100);
            all.set(0, 10);
            all.adjust(0);
            // the last one of them prints with 8 + 162 / 4 - 38 = 10, the next one would with 9
            Check.due("all of them", all.press(1, 39), 39);
            Check.due("no more", all.press(1, 1), 0);
        });
    }

    private static void fill(Sentences acts) {
        acts.test("Fills ink in, 200 at most. This is an act.", () -> {
            StampDater stamp = new StampDater();
            Check.due("to 199", stamp.fill(99), 199);
            Check.due("by 2 to no more than 200", stamp.fill(2), 200);
            Check.due("two acts", stamp.count(11), 2);
            StampDater just = new StampDater();
            Check.due("just 200", just.fill(100), 200);
            StampDater dry = new StampDater();
            dry.press(9, 12);
            Check.due("200 into none", dry.fill(200), 200);
        });
        acts.test("- `ink`: 1 to 200", () ->
                Range.test("fill", 1, 200, Check.BAD_VALUE, ink -> new StampDater().fill(ink)));
        acts.test("Returns the ink then; BAD_VALUE; NONE if it is 200 already.", () -> {
            StampDater stamp = new StampDater();
            Check.due("fill(1)", stamp.fill(1), 101);
            Check.due("fill(200)", stamp.fill(200), 200);
            Check.due("200 already", stamp.fill(1), Check.NONE);
            Check.due("200 already, 200 more", stamp.fill(200), Check.NONE);
            Range.outside("fill of 200", 1, 200, Check.BAD_VALUE, stamp::fill);
            stamp.press(1, 1);
            Check.due("199 is not 200", stamp.fill(1), 200);
        });
    }

    private static void exchange(Sentences acts) {
        acts.test("Exchanges the bands in two places, as they are. This is an act.", () -> {
            StampDater stamp = new StampDater();
            stamp.turn(0, 3);
            stamp.turn(5, -4);
            stamp.press(8, 1);
            stamp.turn(5, -1);
            Check.due("exchange(0, 5)", stamp.exchange(0, 5), 5);
            int[] first = {5, 5, 5, 3, 0, 6};
            int[] last = {0, 3, 3, 3, 0, 3};
            for (int what = 0; what < first.length; what++) {
                Check.due("band(0, " + what + ")", stamp.band(0, what), first[what]);
                Check.due("band(5, " + what + ")", stamp.band(5, what), last[what]);
            }
            Check.due("the others stay", stamp.band(1, 0) * 10 + stamp.band(4, 0), 14);
            Check.due("no step", stamp.count(6), 8);
            Check.due("four acts", stamp.count(11), 4);
        });
        acts.test("- `place`: 0 to 5", "exchange", () ->
                Range.test("exchange's place", 0, 5, Check.UNKNOWN, place -> new StampDater().exchange(place, 3)));
        acts.test("- `other`: 0 to 5", "exchange", () ->
                Range.test("exchange's other", 0, 5, Check.UNKNOWN, other -> new StampDater().exchange(2, other)));
        acts.test("Returns the band that is in the first place then; UNKNOWN; NONE if both are the same.", () -> {
            Range.outside("exchange with itself", 0, 5, Check.UNKNOWN, place -> new StampDater().exchange(place, place));
            for (int place = 0; place < 6; place++) {
                for (int other = 0; other < 6; other++) {
                    Check.due("exchange(" + place + ", " + other + ")", new StampDater().exchange(place, other),
                            place == other ? Check.NONE : other);
                }
            }
            StampDater stamp = new StampDater();
            stamp.exchange(0, 1);
            Check.due("not the number of the place", stamp.exchange(2, 0), 1);
        });
    }

    private static void tighten(Sentences acts) {
        acts.test("Tightens the band in a place: its slack is 0. This is an act.", () -> {
            StampDater stamp = new StampDater();
            stamp.turn(4, 3);
            stamp.turn(3, 2);
            stamp.tighten(4);
            Check.due("slack", stamp.band(4, 2), 0);
            Check.due("the digit stays", stamp.band(4, 1), 3);
            Check.due("the other one's slack stays", stamp.band(3, 2), 2);
            Check.due("three acts", stamp.count(11), 3);
        });
        acts.test("- `place`: 0 to 5", "tighten", () ->
                Range.test("tighten", 0, 5, Check.UNKNOWN, place -> new StampDater().tighten(place)));
        acts.test("Returns the slack that it had; UNKNOWN; NONE if it had none.", () -> {
            StampDater stamp = new StampDater();
            Check.due("none", stamp.tighten(2), Check.NONE);
            stamp.turn(2, -1);
            Check.due("one", stamp.tighten(2), 1);
            Check.due("none again", stamp.tighten(2), Check.NONE);
            for (int time = 0; time < 11; time++) {
                stamp.turn(2, 9);
            }
            Check.due("99", stamp.tighten(2), 99);
        });
    }

    private static void replace(Sentences acts) {
        acts.test("Replaces the band in a place by a new one with the same number, that shows 0, without wear and slack. This "
                + "is an act.", () -> {
            StampDater stamp = new StampDater();
            stamp.exchange(1, 4);
            for (int digit = 0; digit <= 9; digit++) {
                stamp.turn(1, 1);
                stamp.press(1, 1);
            }
            stamp.turn(1, 6);
            stamp.replace(1);
            Check.due("the same number", stamp.band(1, 0), 4);
            Check.due("shows 0", stamp.band(1, 1), 0);
            Check.due("without slack", stamp.band(1, 2), 0);
            for (int digit = 0; digit <= 9; digit++) {
                Check.due("without wear at " + digit, stamp.wear(1, digit), 0);
            }
            Check.due("the others stay", stamp.wear(4, 0), 10);
            StampDater fresh = new StampDater();
            fresh.replace(0);
            Check.due("an act also for a new one", fresh.count(11), 1);
        });
        acts.test("- `place`: 0 to 5", "replace", () ->
                Range.test("replace", 0, 5, Check.UNKNOWN, place -> new StampDater().replace(place)));
        acts.test("Returns the wear of all digits of the old one together; UNKNOWN.", () -> {
            StampDater stamp = new StampDater();
            Check.due("a new one", stamp.replace(3), 0);
            int all = 0;
            for (int digit = 0; digit <= 9; digit++) {
                stamp.press(1, 1 + digit);
                stamp.turn(3, 1);
                all += 1 + digit;
            }
            Check.due("all ten digits", stamp.replace(3), all);
            Check.due("it is new", stamp.replace(3), 0);
        });
    }

    private static void set(Sentences acts) {
        int[] least = {10, 60, 1};
        int[] most = {60, 150, 99};
        int[] first = {30, 100, 40};
        acts.test("- `which`: 0 to 2", () ->
                Range.test("set", 0, 2, Check.BAD_VALUE, which -> new StampDater().set(which, 60)));
        acts.test("- `value`: in its range", () -> {
            for (int which = 0; which <= 2; which++) {
                int setting = which;
                Range.test("set(" + which + ", ..)", least[which], most[which], Check.BAD_VALUE,
                        value -> new StampDater().set(setting, value));
            }
        });
        acts.test("Returns the previous one; BAD_VALUE (which or value); NONE if it is so already.", () -> {
            for (int which = 0; which <= 2; which++) {
                StampDater stamp = new StampDater();
                Check.due("as at first", stamp.set(which, first[which]), Check.NONE);
                Check.due("no act", stamp.count(11), 0);
                Check.due("the least", stamp.set(which, least[which]), first[which]);
                Check.due("the least already", stamp.set(which, least[which]), Check.NONE);
                Check.due("the most", stamp.set(which, most[which]), least[which]);
                Check.due("the most already", stamp.set(which, most[which]), Check.NONE);
                Check.due("it is so", stamp.count(13 + which), most[which]);
                Check.due("two acts", stamp.count(11), 2);
                for (int other = 0; other <= 2; other++) {
                    Check.due("the others stay", stamp.count(13 + other), other == which ? most[which] : first[other]);
                }
            }
            Check.due("both wrong", new StampDater().set(3, 0), Check.BAD_VALUE);
            Check.due("of another setting's range", new StampDater().set(0, 100), Check.BAD_VALUE);
        });
    }

    // ---- history

    private static void undo(Sentences acts) {
        acts.test("Removes and restores the latest state of the history.", () -> {
            StampDater stamp = new StampDater();
            stamp.turn(0, 1);
            stamp.turn(0, 1);
            stamp.undo();
            Check.due("the latest", stamp.band(0, 1), 1);
            stamp.undo();
            Check.due("the one before", stamp.band(0, 1), 0);
            Check.due("no step", stamp.count(6), 0);
        });
        acts.test("Returns the number of states that are left; NONE if the history is empty.", () -> {
            StampDater stamp = new StampDater();
            Check.due("empty", stamp.undo(), Check.NONE);
            stamp.pass(1);
            Check.due("none is left", stamp.undo(), 0);
            Check.due("empty again", stamp.undo(), Check.NONE);
            for (int act = 0; act < 5; act++) {
                stamp.pass(1);
            }
            for (int left = 3; left >= 0; left--) {
                Check.due("left", stamp.undo(), left);
            }
            Check.due("empty behind four", stamp.undo(), Check.NONE);
            Check.due("the fifth is dropped", stamp.count(0), 1);
        });
    }

    private static void keepAndRestore(Sentences acts) {
        acts.test("Takes a snapshot of the state, in place of the one that was.", () -> {
            StampDater stamp = new StampDater();
            stamp.keep();
            stamp.turn(0, 4);
            stamp.keep();
            stamp.turn(0, 4);
            stamp.restore();
            Check.due("the later one", stamp.band(0, 1), 4);
            stamp.press(9, 2);
            stamp.restore();
            Check.due("what comes behind it is not in it", stamp.count(2) + stamp.wear(1, 0), 0);
        });
        acts.test("Returns the day of today.", "keep", () -> {
            Check.due("the first day", new StampDater().keep(), 0);
            Check.due("the last day", Stamps.onDay(Stamps.LAST_DAY).keep(), Stamps.LAST_DAY);
            StampDater stamp = Stamps.onDay(3);
            stamp.keep();
            Check.due("no act", stamp.count(11), 1);
        });
        acts.test("Restores the state of the snapshot, which stays. This is an act.", () -> {
            StampDater stamp = new StampDater();
            stamp.keep();
            for (int time = 1; time <= 3; time++) {
                stamp.press(9, 1);
                stamp.pass(1);
                Check.due("restore", stamp.restore(), 0);
                Check.due("prints", stamp.count(2), 0);
            }
            Check.due("undo of it", stamp.undo(), 3);
            Check.due("what was before it", stamp.count(0) * 10 + stamp.count(2), 11);
            stamp.restore();
            stamp.restore();
            Check.due("also if all is so already", stamp.undo() + stamp.count(0), 3);
        });
        acts.test("Returns the day of today then; NONE if there is no snapshot.", () -> {
            StampDater stamp = Stamps.onDay(2);
            Check.due("no snapshot", stamp.restore(), Check.NONE);
            Check.due("no act", stamp.count(11), 1);
            stamp.keep();
            stamp.pass(1);
            Check.due("restore", stamp.restore(), 2);
            stamp.pass(7);
            stamp.keep();
            stamp.undo();
            Check.due("today of the snapshot, not of the stamp", stamp.restore(), 9);
        });
    }
}
