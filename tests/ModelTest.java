/** Runs of calls that are drawn from a fixed row of numbers, with the answers of the Model as due. */
public final class ModelTest {
    private static final int RUNS = 600;
    private static final int CALLS = 512;

    private long drawn;
    private int calls = 0;
    private final StringBuilder run = new StringBuilder();
    private final StampDater stamp;
    private final Model model;

    private ModelTest(int seed) {
        drawn = seed * 7919L + 17;
        stamp = new StampDater();
        model = new Model();
    }

    public static void main(String[] args) {
        for (int seed = 0; seed < RUNS && !Check.sawWrong(); seed++) {
            new ModelTest(seed).calls(seed);
        }
        Check.end("ModelTest");
    }

    private int draw(int bound) {
        drawn = drawn * 6364136223846793005L + 1442695040888963407L;
        return (int) ((drawn >>> 33) % bound);
    }

    /** Mostly a number of a range, now and then one beside it or far from it. */
    private int number(int least, int most) {
        int kind = draw(40);
        if (kind == 0) {
            return least - 1;
        }
        if (kind == 1) {
            return most + 1;
        }
        if (kind == 2) {
            return draw(2) == 0 ? Integer.MIN_VALUE : Integer.MAX_VALUE;
        }
        if (kind == 3) {
            return draw(2) == 0 ? least : most;
        }
        return least + draw(most - least + 1);
    }

    private String order() {
        switch (draw(7)) {
            case 0:
                return String.format("d%06d", model.date(draw(36525), 3));
            case 1:
            case 2:
                return "a";
            case 3:
                return "p" + (1 + draw(9)) + (draw(2) == 0 ? "" : "x" + (1 + draw(3)));
            case 4:
                return "p" + number(0, 9) + "x" + number(0, draw(9) == 0 ? 99 : 9);
            case 5:
                return "+" + number(0, draw(3) == 0 ? 999 : 9);
            default:
                return "i" + number(0, 200);
        }
    }

    private String text() {
        StringBuilder text = new StringBuilder(order());
        while (draw(5) != 0 && text.length() < 60) {
            text.append(';').append(order());
        }
        if (draw(3) == 0) {
            String signs = "dap+ix;0123456789 D";
            text.setCharAt(draw(text.length()), signs.charAt(draw(signs.length())));
        }
        return text.substring(0, draw(4) == 0 ? draw(text.length() + 1) : text.length());
    }

    private void calls(int seed) {
        int taste = seed % 4;
        if (taste == 1) {
            toTheLastYear();
        }
        if (taste == 2) {
            darkAndWide();
        }
        while (calls < CALLS - 80 && !Check.sawWrong()) {
            call(draw(34));
        }
        if (Check.sawWrong()) {
            System.out.println("run " + seed + ":\n" + run);
        }
    }

    private void toTheLastYear() {
        type("+999;+999;+999;+999;+999;+999;+999;+999;+999;+999;+999;+999");
        for (int time = 0; time < 3; time++) {
            due("doAll()", stamp.doAll(), model.doAll());
        }
        int days = 400 + draw(161);
        due("pass(" + days + ")", stamp.pass(days), model.pass(days));
    }

    private void darkAndWide() {
        due("set(0, 10)", stamp.set(0, 10), model.set(0, 10));
        due("set(1, 150)", stamp.set(1, 150), model.set(1, 150));
        due("fill(200)", stamp.fill(200), model.fill(200));
        int loose = 40 + draw(60);
        due("set(2, " + loose + ")", stamp.set(2, loose), model.set(2, loose));
    }

    private void due(String call, double got, double want) {
        calls++;
        run.append(call).append(" = ").append(want).append('\n');
        Check.due(call, got, want);
    }

    private void type(String text) {
        for (char character : text.toCharArray()) {
            due("type(" + (int) character + ")", stamp.type(character), model.type(character));
        }
    }

    private int someDay() {
        int today = model.count(0);
        return draw(3) != 0 ? Math.min(36524, today + draw(3)) : number(0, 36524);
    }

    private void call(int which) {
        int place = number(0, 5);
        switch (which) {
            case 0:
                int days = number(1, draw(20) == 0 ? 999 : 4);
                due("pass(" + days + ")", stamp.pass(days), model.pass(days));
                break;
            case 1:
            case 2:
                int day = draw(2) == 0 ? model.count(0) : someDay();
                due("adjust(" + day + ")", stamp.adjust(day), model.adjust(day));
                break;
            case 3:
                int steps = number(-9, 9);
                due("turn(" + place + ", " + steps + ")", stamp.turn(place, steps), model.turn(place, steps));
                break;
            case 4:
            case 5:
                int strength = number(1, 9);
                int times = number(1, draw(20) == 0 ? 99 : 3);
                due("press(" + strength + ", " + times + ")", stamp.press(strength, times), model.press(strength, times));
                break;
            case 6:
                int ink = number(1, 200);
                due("fill(" + ink + ")", stamp.fill(ink), model.fill(ink));
                break;
            case 7:
                int other = number(0, 5);
                due("exchange(" + place + ", " + other + ")", stamp.exchange(place, other), model.exchange(place, other));
                break;
            case 8:
                due("tighten(" + place + ")", stamp.tighten(place), model.tighten(place));
                break;
            case 9:
                due("replace(" + place + ")", stamp.replace(place), model.replace(place));
                break;
            case 10:
                int setting = number(0, 2);
                int value = setting == 0 ? number(10, 60) : setting == 1 ? number(60, 150) : number(1, 99);
                due("set(" + setting + ", " + value + ")", stamp.set(setting, value), model.set(setting, value));
                break;
            case 11:
                due("clearText()", stamp.clearText(), model.clearText());
                type(text());
                break;
            case 12:
                due("fault()", stamp.fault(), model.fault());
                break;
            case 13:
            case 14:
                due("doAll()", stamp.doAll(), model.doAll());
                break;
            case 15:
                due("undo()", stamp.undo(), model.undo());
                break;
            case 16:
                due("keep()", stamp.keep(), model.keep());
                break;
            case 17:
                due("restore()", stamp.restore(), model.restore());
                break;
            default:
                ask(which, place);
                break;
        }
    }

    private void ask(int which, int place) {
        int strength = number(1, 9);
        int times = number(1, draw(2) == 0 ? 3 : 20);
        int day = someDay();
        switch (which) {
            case 18:
                int digits = number(0, 999999);
                due("day(" + digits + ")", stamp.day(digits), model.day(digits));
                int part = number(0, 3);
                due("date(" + day + ", " + part + ")", stamp.date(day, part), model.date(day, part));
                break;
            case 19:
            case 20:
                int what = number(0, 6);
                due("band(" + place + ", " + what + ")", stamp.band(place, what), model.band(place, what));
                break;
            case 21:
                int digit = number(0, 9);
                due("wear(" + place + ", " + digit + ")", stamp.wear(place, digit), model.wear(place, digit));
                break;
            case 22:
            case 23:
                int print = number(0, draw(2) == 0 ? 2 : 11);
                int told = number(0, 7);
                due("print(" + print + ", " + told + ")", stamp.print(print, told), model.print(print, told));
                break;
            case 24:
                due("rightOf(" + day + ")", stamp.rightOf(day), model.rightOf(day));
                break;
            case 25:
            case 26:
                int counted = number(0, 15);
                due("count(" + counted + ")", stamp.count(counted), model.count(counted));
                break;
            case 27:
                due("even()", stamp.even(), model.even());
                break;
            case 28:
                due("stepsTo(" + day + ")", stamp.stepsTo(day), model.stepsTo(day));
                break;
            case 29:
                due("leastPress()", stamp.leastPress(), model.leastPress());
                break;
            case 30:
            case 31:
                due("lasts(" + strength + ", " + times + ")", stamp.lasts(strength, times), model.lasts(strength, times));
                break;
            default:
                due("bestExchange(" + strength + ", " + times + ")", stamp.bestExchange(strength, times),
                        model.bestExchange(strength, times));
                break;
        }
    }
}
