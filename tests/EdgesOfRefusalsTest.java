import java.io.IOException;
import java.util.function.Supplier;
import java.util.function.ToIntFunction;

/** "A call that returns an error or NONE changes nothing.": a test for each method and each such answer of it. */
public final class EdgesOfRefusalsTest {
    private static final String SENTENCE = "A call that returns an error or NONE changes nothing.";

    public static void main(String[] args) throws IOException {
        Sentences refusals = new Sentences("EdgesOfRefusalsTest");
        refusals.test(SENTENCE, "pass", EdgesOfRefusalsTest::pass);
        refusals.test(SENTENCE, "adjust", EdgesOfRefusalsTest::adjust);
        refusals.test(SENTENCE, "turn", EdgesOfRefusalsTest::turn);
        refusals.test(SENTENCE, "press", EdgesOfRefusalsTest::press);
        refusals.test(SENTENCE, "fill", EdgesOfRefusalsTest::fill);
        refusals.test(SENTENCE, "exchange", EdgesOfRefusalsTest::exchange);
        refusals.test(SENTENCE, "tighten", EdgesOfRefusalsTest::tighten);
        refusals.test(SENTENCE, "replace", EdgesOfRefusalsTest::replace);
        refusals.test(SENTENCE, "set", EdgesOfRefusalsTest::set);
        refusals.test(SENTENCE, "type", EdgesOfRefusalsTest::type);
        refusals.test(SENTENCE, "fault", EdgesOfRefusalsTest::fault);
        refusals.test(SENTENCE, "doAll", EdgesOfRefusalsTest::doAll);
        refusals.test(SENTENCE, "undo", EdgesOfRefusalsTest::undo);
        refusals.test(SENTENCE, "restore", EdgesOfRefusalsTest::restore);
        refusals.test(SENTENCE, "date and day", EdgesOfRefusalsTest::dates);
        refusals.test(SENTENCE, "band, wear and print", EdgesOfRefusalsTest::bandsAndPrints);
        refusals.test(SENTENCE, "rightOf, count and stepsTo", EdgesOfRefusalsTest::numbers);
        refusals.test(SENTENCE, "leastPress", EdgesOfRefusalsTest::leastPress);
        refusals.test(SENTENCE, "lasts and bestExchange", EdgesOfRefusalsTest::trials);
        refusals.end();
    }

    /** A call answers as told, and leaves a stamp as one that was made in the same way without it. */
    private static void refused(String call, Supplier<StampDater> made, ToIntFunction<StampDater> answer, int want) {
        StampDater stamp = made.get();
        Check.due(call, answer.applyAsInt(stamp), want);
        Check.same(call, Stamps.everything(stamp), Stamps.everything(made.get()));
    }

    private static void refused(String call, ToIntFunction<StampDater> answer, int want) {
        refused(call, Stamps::used, answer, want);
        refused(call + " of a new one", StampDater::new, answer, want);
    }

    private static StampDater usedOnLastDay() {
        StampDater stamp = Stamps.onDay(Stamps.LAST_DAY - 1);
        stamp.keep();
        stamp.adjust(Stamps.LAST_DAY);
        stamp.pass(1);
        stamp.press(3, 2);
        return stamp;
    }

    private static StampDater withInk200() {
        StampDater stamp = Stamps.used();
        stamp.fill(200);
        return stamp;
    }

    private static void pass() {
        refused("pass(0)", stamp -> stamp.pass(0), Check.BAD_VALUE);
        refused("pass(-1)", stamp -> stamp.pass(-1), Check.BAD_VALUE);
        refused("pass(1000)", stamp -> stamp.pass(1000), Check.BAD_VALUE);
        refused("pass(MAX)", stamp -> stamp.pass(Check.MAX), Check.BAD_VALUE);
        refused("pass(1)", EdgesOfRefusalsTest::usedOnLastDay, stamp -> stamp.pass(1), Check.FULL);
        refused("pass(999)", EdgesOfRefusalsTest::usedOnLastDay, stamp -> stamp.pass(999), Check.FULL);
    }

    private static void adjust() {
        refused("adjust(-1)", stamp -> stamp.adjust(-1), Check.UNKNOWN);
        refused("adjust(36525)", stamp -> stamp.adjust(36525), Check.UNKNOWN);
    }

    private static void turn() {
        refused("turn(-1, 1)", stamp -> stamp.turn(-1, 1), Check.UNKNOWN);
        refused("turn(6, 1)", stamp -> stamp.turn(6, 1), Check.UNKNOWN);
        refused("turn(6, 0)", stamp -> stamp.turn(6, 0), Check.UNKNOWN);
        refused("turn(0, 0)", stamp -> stamp.turn(0, 0), Check.BAD_VALUE);
        refused("turn(0, 10)", stamp -> stamp.turn(0, 10), Check.BAD_VALUE);
        refused("turn(0, -10)", stamp -> stamp.turn(0, -10), Check.BAD_VALUE);
    }

    private static void press() {
        refused("press(0, 1)", stamp -> stamp.press(0, 1), Check.BAD_VALUE);
        refused("press(10, 1)", stamp -> stamp.press(10, 1), Check.BAD_VALUE);
        refused("press(1, 0)", stamp -> stamp.press(1, 0), Check.BAD_VALUE);
        refused("press(1, 100)", stamp -> stamp.press(1, 100), Check.BAD_VALUE);
    }

    private static void fill() {
        refused("fill(0)", stamp -> stamp.fill(0), Check.BAD_VALUE);
        refused("fill(201)", stamp -> stamp.fill(201), Check.BAD_VALUE);
        refused("fill(1)", EdgesOfRefusalsTest::withInk200, stamp -> stamp.fill(1), Check.NONE);
        refused("fill(201)", EdgesOfRefusalsTest::withInk200, stamp -> stamp.fill(201), Check.BAD_VALUE);
    }

    private static void exchange() {
        refused("exchange(-1, 0)", stamp -> stamp.exchange(-1, 0), Check.UNKNOWN);
        refused("exchange(0, 6)", stamp -> stamp.exchange(0, 6), Check.UNKNOWN);
        refused("exchange(6, 6)", stamp -> stamp.exchange(6, 6), Check.UNKNOWN);
        refused("exchange(3, 3)", stamp -> stamp.exchange(3, 3), Check.NONE);
    }

    private static void tighten() {
        refused("tighten(-1)", stamp -> stamp.tighten(-1), Check.UNKNOWN);
        refused("tighten(6)", stamp -> stamp.tighten(6), Check.UNKNOWN);
        refused("tighten(5)", stamp -> stamp.tighten(5), Check.NONE);
    }

    private static void replace() {
        refused("replace(-1)", stamp -> stamp.replace(-1), Check.UNKNOWN);
        refused("replace(6)", stamp -> stamp.replace(6), Check.UNKNOWN);
    }

    private static void set() {
        refused("set(-1, 30)", stamp -> stamp.set(-1, 30), Check.BAD_VALUE);
        refused("set(3, 60)", stamp -> stamp.set(3, 60), Check.BAD_VALUE);
        refused("set(0, 9)", stamp -> stamp.set(0, 9), Check.BAD_VALUE);
        refused("set(0, 61)", stamp -> stamp.set(0, 61), Check.BAD_VALUE);
        refused("set(1, 59)", stamp -> stamp.set(1, 59), Check.BAD_VALUE);
        refused("set(1, 151)", stamp -> stamp.set(1, 151), Check.BAD_VALUE);
        refused("set(2, 0)", stamp -> stamp.set(2, 0), Check.BAD_VALUE);
        refused("set(2, 100)", stamp -> stamp.set(2, 100), Check.BAD_VALUE);
        refused("set(0, 30)", stamp -> stamp.set(0, 30), Check.NONE);
        refused("set(1, 60)", Stamps::used, stamp -> stamp.set(1, 60), Check.NONE);
        refused("set(2, 9)", Stamps::used, stamp -> stamp.set(2, 9), Check.NONE);
    }

    private static void type() {
        Supplier<StampDater> full = () -> Stamps.withText("+1;" + "a;".repeat(28) + "a");
        refused("type the 61st", full, stamp -> stamp.type(';'), Check.FULL);
        refused("type the 61st", full, stamp -> stamp.type((char) 0), Check.FULL);
    }

    private static void fault() {
        refused("fault()", Stamps::used, StampDater::fault, Check.NONE);
        refused("fault() of a new one", StampDater::new, StampDater::fault, 0);
    }

    private static void doAll() {
        refused("doAll() of no text", StampDater::new, StampDater::doAll, -100);
        Supplier<StampDater> withFault = () -> {
            StampDater stamp = Stamps.used();
            Stamps.type(stamp, "p5x9;+4;a;p2;i8;d290201;a");
            return stamp;
        };
        refused("doAll() with a fault", withFault, StampDater::doAll, -122);
        Supplier<StampDater> late = () -> {
            StampDater stamp = usedOnLastDay();
            Stamps.type(stamp, "p5x9;i8;a;+1");
            return stamp;
        };
        refused("doAll() beyond the last day", late, StampDater::doAll, Check.FULL);
    }

    private static void undo() {
        refused("undo() of a new one", StampDater::new, StampDater::undo, Check.NONE);
        Supplier<StampDater> undone = () -> {
            StampDater stamp = Stamps.used();
            for (int act = 0; act < 4; act++) {
                stamp.undo();
            }
            return stamp;
        };
        refused("undo() behind all", undone, StampDater::undo, Check.NONE);
    }

    private static void restore() {
        refused("restore() of a new one", StampDater::new, StampDater::restore, Check.NONE);
        refused("restore() without a snapshot", () -> Stamps.onDay(7), StampDater::restore, Check.NONE);
    }

    private static void dates() {
        refused("date(-1, 0)", stamp -> stamp.date(-1, 0), Check.UNKNOWN);
        refused("date(36525, 4)", stamp -> stamp.date(36525, 4), Check.UNKNOWN);
        refused("date(0, 4)", stamp -> stamp.date(0, 4), Check.BAD_VALUE);
        refused("day(-1)", stamp -> stamp.day(-1), Check.BAD_VALUE);
        refused("day(1000000)", stamp -> stamp.day(1000000), Check.BAD_VALUE);
        refused("day(290201)", stamp -> stamp.day(290201), Check.NONE);
    }

    private static void bandsAndPrints() {
        refused("band(6, 0)", stamp -> stamp.band(6, 0), Check.UNKNOWN);
        refused("band(0, 7)", stamp -> stamp.band(0, 7), Check.BAD_VALUE);
        refused("wear(6, 0)", stamp -> stamp.wear(6, 0), Check.UNKNOWN);
        refused("wear(0, 10)", stamp -> stamp.wear(0, 10), Check.BAD_VALUE);
        refused("print(11, 0)", stamp -> stamp.print(11, 0), Check.UNKNOWN);
        refused("print(0, 8)", Stamps::used, stamp -> stamp.print(0, 8), Check.BAD_VALUE);
        Supplier<StampDater> withoutDate = () -> {
            StampDater stamp = new StampDater();
            stamp.press(5, 1);
            return stamp;
        };
        refused("print(0, 7)", withoutDate, stamp -> stamp.print(0, 7), Check.NONE);
    }

    private static void numbers() {
        refused("rightOf(-1)", stamp -> stamp.rightOf(-1), Check.UNKNOWN);
        refused("rightOf(36525)", stamp -> stamp.rightOf(36525), Check.UNKNOWN);
        refused("count(-1)", stamp -> stamp.count(-1), Check.BAD_VALUE);
        refused("count(16)", stamp -> stamp.count(16), Check.BAD_VALUE);
        refused("count(9)", StampDater::new, stamp -> stamp.count(9), Check.NONE);
        refused("stepsTo(-1)", stamp -> stamp.stepsTo(-1), Check.UNKNOWN);
        refused("stepsTo(36525)", stamp -> stamp.stepsTo(36525), Check.UNKNOWN);
    }

    private static void leastPress() {
        Supplier<StampDater> faint = () -> {
            StampDater stamp = Stamps.used();
            stamp.set(0, 60);
            return stamp;
        };
        refused("leastPress()", faint, StampDater::leastPress, Check.NONE);
    }

    private static void trials() {
        refused("lasts(0, 1)", stamp -> stamp.lasts(0, 1), Check.BAD_VALUE);
        refused("lasts(1, 21)", stamp -> stamp.lasts(1, 21), Check.BAD_VALUE);
        refused("bestExchange(10, 1)", stamp -> stamp.bestExchange(10, 1), Check.BAD_VALUE);
        refused("bestExchange(1, 0)", stamp -> stamp.bestExchange(1, 0), Check.BAD_VALUE);
        refused("lasts(3, 1)", EdgesOfRefusalsTest::usedOnLastDay, stamp -> stamp.lasts(3, 1), Check.NONE);
        refused("bestExchange(3, 1)", EdgesOfRefusalsTest::usedOnLastDay, stamp -> stamp.bestExchange(3, 1), Check.NONE);
    }
}
