/** Promises 27 to 29: what would be. */
public final class TrialTest {
    public static void main(String[] args) {
        leastPress();
        lasts();
        bestExchange();
        Check.end("TrialTest");
    }

    private static void leastPress() {
        StampDater stamp = new StampDater();
        // 8 + 25 = 33
        Check.due("least of a new one", stamp.leastPress(), 1);
        stamp.set(0, 33);
        Check.due("33 is clear", stamp.leastPress(), 1);
        stamp.set(0, 34);
        Check.due("33 is faint", stamp.leastPress(), 2);
        stamp.press(1, 1);
        // 16 + 24 - 1 = 39
        stamp.set(0, 40);
        Check.due("39 is faint", stamp.leastPress(), 3);
        stamp.replace(0);
        Check.due("the others are faint yet", stamp.leastPress(), 3);
        StampDater uneven = new StampDater();
        uneven.set(1, 60);
        uneven.set(0, 60);
        // the darkness is 8 times the strength, and 25: it is never 60
        Check.due("faint or smudged", uneven.leastPress(), -5);
        uneven.set(0, 57);
        Check.due("57 is between", uneven.leastPress(), 4);
        uneven.press(1, 1);
        uneven.turn(0, 1);
        // 24 + 8 s for the digit that is new, one less for the others: 56 and 55, 64 and 63
        Check.due("no strength for all", uneven.leastPress(), -5);
        uneven.set(0, 56);
        Check.due("one is faint", uneven.leastPress(), -5);
        uneven.set(0, 55);
        Check.due("none is faint", uneven.leastPress(), 4);
        StampDater dry = new StampDater();
        dry.press(9, 40);
        Check.due("worn and dry", dry.leastPress(), -5);
        Check.due("no act", dry.count(11), 1);
        dry.press(3, 1);
        StampDater strong = new StampDater();
        strong.set(0, 60);
        strong.press(1, 26);
        // 8 s + 18 - 26 is 60 or more if s is 9, 8 s is 68 or more
        Check.due("the strongest", strong.leastPress(), 9);
        strong.press(1, 5);
        Check.due("not even the strongest", strong.leastPress(), -5);
    }

    /** What lasts() is to tell, found by the orders that it stands for. */
    private static int lasting(StampDater stamp, int strength, int times) {
        int spent = Math.min(stamp.count(1), strength * times);
        int left = Stamps.LAST_DAY - stamp.count(0);
        int right = stamp.count(3);
        String orders = "a;p" + strength + "x" + times + (spent > 0 ? ";i" + spent : "");
        Stamps.type(stamp, orders + ";+1");
        for (int days = 0; days < 200 && days <= left; days++) {
            if (days == left) {
                Stamps.type(stamp, orders);
            }
            stamp.doAll();
            right += times;
            if (stamp.count(3) != right) {
                return days;
            }
        }
        return Check.NONE;
    }

    private static StampDater stamp(int which) {
        StampDater stamp = new StampDater();
        if (which % 2 == 1) {
            stamp.fill(100);
            stamp.set(1, 150);
        }
        if (which % 3 == 1) {
            stamp.set(0, 10);
        }
        if (which % 4 == 1) {
            stamp.set(2, 7 + which);
        }
        if (which % 5 == 1) {
            stamp.pass(50 + 90 * which);
        }
        stamp.press(1 + which % 6, 1 + 2 * which);
        stamp.turn(which % 6, 1 + which % 9);
        stamp.fill(150);
        return stamp;
    }

    private static void lasts() {
        Check.due("lasts of a new one", new StampDater().lasts(5, 3), lasting(new StampDater(), 5, 3));
        boolean sawNone = false;
        boolean sawZero = false;
        for (int which = 0; which < 20; which++) {
            for (int strength = 1; strength <= 9; strength++) {
                for (int times : new int[] {1, 2, 5, 20}) {
                    StampDater stamp = stamp(which);
                    int lasts = stamp.lasts(strength, times);
                    Check.due("lasts(" + strength + ", " + times + ") of " + which, lasts, lasting(stamp, strength, times));
                    sawNone |= lasts == -5;
                    sawZero |= lasts == 0;
                }
            }
        }
        Check.due("saw NONE", sawNone ? 1 : 0, 1);
        Check.due("saw 0", sawZero ? 1 : 0, 1);
        endsWithinTwoHundredDays();
    }

    /** Of the years' digits the stamp shows 00 each day, so that their wear alone ends it. */
    private static void endsWithinTwoHundredDays() {
        StampDater stamp = new StampDater();
        stamp.set(0, 10);
        stamp.set(1, 150);
        // 8 + 25 - wear, one more each day: 33 - 23 is clear on the day 23, the day 24 is faint
        Check.due("lasts(1, 1)", stamp.lasts(1, 1), 24);
        stamp.fill(100);
        // 72 + 50 - wear, and 72 + 50 - 99 is clear for ever, if no band slips on its day
        stamp.set(2, 99);
        Check.due("lasts(9, 1)", stamp.lasts(9, 1), -5);
        Check.due("slack lasts", stamp.lasts(9, 2), lasting(stamp, 9, 2));
    }

    private static int best(StampDater stamp, int strength, int times) {
        int longest = stamp.lasts(strength, times);
        int best = -5;
        for (int first = 0; first < 6; first++) {
            for (int second = first + 1; second < 6; second++) {
                stamp.exchange(first, second);
                int lasts = stamp.lasts(strength, times);
                stamp.undo();
                if (longest != -5 && (lasts == -5 || lasts > longest)) {
                    longest = lasts;
                    best = 10 * first + second;
                }
            }
        }
        return best;
    }

    private static void bestExchange() {
        boolean sawBest = false;
        boolean sawNone = false;
        for (int which = 0; which < 20; which++) {
            for (int strength = 1; strength <= 9; strength++) {
                for (int times : new int[] {1, 3}) {
                    int best = stamp(which).bestExchange(strength, times);
                    Check.due("bestExchange(" + strength + ", " + times + ") of " + which, best, best(stamp(which), strength, times));
                    sawBest |= best > 0;
                    sawNone |= best == -5;
                }
            }
        }
        Check.due("saw an exchange", sawBest ? 1 : 0, 1);
        Check.due("saw NONE", sawNone ? 1 : 0, 1);
    }
}
