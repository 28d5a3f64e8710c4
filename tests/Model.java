import java.time.LocalDate;
import java.util.ArrayList;
import java.util.HashMap;
import java.util.HashSet;
import java.util.List;
import java.util.Map;
import java.util.Set;

/** The document once more, in the plainest way and with the Java library: what StampDater is compared with. */
final class Model {
    private static final String[] DATES = new String[36525];
    private static final Map<String, Integer> DAYS = new HashMap<>();
    private static final Set<String> ORDERS = new HashSet<>();
    private static final Set<String> BEGINNINGS = new HashSet<>();

    static {
        for (int day = 0; day < DATES.length; day++) {
            LocalDate date = LocalDate.of(2000, 1, 1).plusDays(day);
            DATES[day] = String.format("%02d%02d%02d", date.getDayOfMonth(), date.getMonthValue(), date.getYear() % 100);
            DAYS.put(DATES[day], day);
            ORDERS.add("d" + DATES[day]);
        }
        ORDERS.add("a");
        for (int strength = 1; strength <= 9; strength++) {
            ORDERS.add("p" + strength);
            for (int times = 1; times <= 99; times++) {
                ORDERS.add("p" + strength + "x" + times);
            }
        }
        for (int days = 1; days <= 999; days++) {
            ORDERS.add("+" + days);
        }
        for (int ink = 1; ink <= 200; ink++) {
            ORDERS.add("i" + ink);
        }
        for (String order : ORDERS) {
            for (int length = 0; length <= order.length(); length++) {
                BEGINNINGS.add(order.substring(0, length));
            }
        }
    }

    private static final class Band {
        int number;
        int shown = 0;
        int slack = 0;
        int[] wear = new int[10];

        Band(int number) {
            this.number = number;
        }

        Band copy() {
            Band copy = new Band(number);
            copy.shown = shown;
            copy.slack = slack;
            copy.wear = wear.clone();
            return copy;
        }
    }

    private record Print(String digits, int day, int faint, int smudged, boolean right, int strength) {
    }

    private static final class State {
        int today = 0;
        int ink = 100;
        int[] settings = {30, 100, 40};
        List<Band> bands = new ArrayList<>();
        List<Print> prints = new ArrayList<>();
        Map<Integer, Integer> right = new HashMap<>();
        int[] counts = new int[8];

        State copy() {
            State copy = new State();
            copy.today = today;
            copy.ink = ink;
            copy.settings = settings.clone();
            for (Band band : bands) {
                copy.bands.add(band.copy());
            }
            copy.prints.addAll(prints);
            copy.right.putAll(right);
            copy.counts = counts.clone();
            return copy;
        }

        String shown() {
            StringBuilder shown = new StringBuilder();
            for (Band band : bands) {
                shown.append(band.shown);
            }
            return shown.toString();
        }

        void step(Band band, int by) {
            for (int step = 0; step < Math.abs(by); step++) {
                band.shown = (band.shown + (by > 0 ? 1 : 9)) % 10;
                if (band.slack < 99) {
                    band.slack++;
                }
                counts[6]++;
            }
        }

        int adjust(String date) {
            int before = counts[6];
            for (int place = 0; place < 6; place++) {
                Band band = bands.get(place);
                int due = date.charAt(place) - '0';
                for (int steps = 0; steps <= 5; steps++) {
                    if ((band.shown + steps) % 10 == due) {
                        step(band, steps);
                        break;
                    }
                    if ((band.shown + 10 - steps) % 10 == due && (band.shown + 5) % 10 != due) {
                        step(band, -steps);
                        break;
                    }
                }
            }
            return counts[6] - before;
        }

        boolean press(int strength) {
            String digits = shown();
            int faint = 0;
            int smudged = 0;
            for (int place = 0; place < 6; place++) {
                Band band = bands.get(place);
                int darkness = 8 * strength + ink / 4 - band.wear[band.shown];
                if (darkness < settings[0]) {
                    faint += 1 << place;
                    counts[4]++;
                } else if (darkness > settings[1]) {
                    smudged += 1 << place;
                    counts[5]++;
                }
            }
            for (Band band : bands) {
                band.wear[band.shown] = Math.min(99, band.wear[band.shown] + 1 + strength / 4);
            }
            ink = Math.max(0, ink - strength);
            for (Band band : bands) {
                if (strength >= 7 && band.slack >= settings[2]) {
                    band.shown = (band.shown + 1) % 10;
                    band.slack = 0;
                    counts[7]++;
                }
            }
            boolean right = digits.equals(DATES[today]) && faint == 0 && smudged == 0;
            prints.add(0, new Print(digits, today, faint, smudged, right, strength));
            if (prints.size() > 12) {
                prints.remove(12);
            }
            counts[2]++;
            if (right) {
                counts[3]++;
                right(1);
            }
            return right;
        }

        void right(int more) {
            right.merge(today, more, Integer::sum);
        }
    }

    private State now = new State();
    private final List<State> history = new ArrayList<>();
    private State snapshot = null;
    private String text = "";

    Model() {
        for (int place = 0; place < 6; place++) {
            now.bands.add(new Band(place));
        }
    }

    private void act() {
        history.add(now.copy());
        if (history.size() > 4) {
            history.remove(0);
        }
    }

    private static boolean out(int value, int least, int most) {
        return value < least || value > most;
    }

    int pass(int days) {
        if (out(days, 1, 999)) {
            return -2;
        }
        if (now.today + days > 36524) {
            return -3;
        }
        act();
        return now.today += days;
    }

    int adjust(int day) {
        if (out(day, 0, 36524)) {
            return -1;
        }
        act();
        return now.adjust(DATES[day]);
    }

    int turn(int place, int steps) {
        if (out(place, 0, 5)) {
            return -1;
        }
        if (steps == 0 || out(steps, -9, 9)) {
            return -2;
        }
        act();
        now.step(now.bands.get(place), steps);
        return now.bands.get(place).shown;
    }

    int press(int strength, int times) {
        if (out(strength, 1, 9) || out(times, 1, 99)) {
            return -2;
        }
        act();
        int right = 0;
        for (int time = 0; time < times; time++) {
            right += now.press(strength) ? 1 : 0;
        }
        return right;
    }

    int fill(int ink) {
        if (out(ink, 1, 200)) {
            return -2;
        }
        if (now.ink == 200) {
            return -5;
        }
        act();
        return now.ink = Math.min(200, now.ink + ink);
    }

    int exchange(int place, int other) {
        if (out(place, 0, 5) || out(other, 0, 5)) {
            return -1;
        }
        if (place == other) {
            return -5;
        }
        act();
        java.util.Collections.swap(now.bands, place, other);
        return now.bands.get(place).number;
    }

    int tighten(int place) {
        if (out(place, 0, 5)) {
            return -1;
        }
        int slack = now.bands.get(place).slack;
        if (slack == 0) {
            return -5;
        }
        act();
        now.bands.get(place).slack = 0;
        return slack;
    }

    int replace(int place) {
        if (out(place, 0, 5)) {
            return -1;
        }
        act();
        Band old = now.bands.set(place, new Band(now.bands.get(place).number));
        return java.util.Arrays.stream(old.wear).sum();
    }

    int set(int which, int value) {
        if (out(which, 0, 2) || out(value, new int[] {10, 60, 1}[which], new int[] {60, 150, 99}[which])) {
            return -2;
        }
        int previous = now.settings[which];
        if (previous == value) {
            return -5;
        }
        act();
        now.settings[which] = value;
        return previous;
    }

    int type(char character) {
        if (text.length() == 60) {
            return -3;
        }
        text += character;
        return text.length();
    }

    int clearText() {
        int length = text.length();
        text = "";
        return length;
    }

    private static boolean isBeginning(String text) {
        String[] parts = text.split(";", -1);
        for (int part = 0; part < parts.length - 1; part++) {
            if (!ORDERS.contains(parts[part])) {
                return false;
            }
        }
        return BEGINNINGS.contains(parts[parts.length - 1]);
    }

    int fault() {
        for (int index = 0; index < text.length(); index++) {
            if (!isBeginning(text.substring(0, index + 1))) {
                return index;
            }
        }
        String[] parts = text.split(";", -1);
        return ORDERS.contains(parts[parts.length - 1]) ? -5 : text.length();
    }

    int doAll() {
        if (fault() != -5) {
            return -100 - fault();
        }
        String[] orders = text.split(";");
        State before = now.copy();
        for (String order : orders) {
            if (!doOrder(order)) {
                now = before;
                return -3;
            }
        }
        history.add(before);
        if (history.size() > 4) {
            history.remove(0);
        }
        return orders.length;
    }

    private boolean doOrder(String order) {
        String rest = order.substring(1);
        switch (order.charAt(0)) {
            case 'd' -> now.adjust(rest);
            case 'a' -> now.adjust(DATES[now.today]);
            case 'p' -> {
                int times = rest.length() > 1 ? Integer.parseInt(rest.substring(2)) : 1;
                for (int time = 0; time < times; time++) {
                    now.press(rest.charAt(0) - '0');
                }
            }
            case '+' -> now.today += Integer.parseInt(rest);
            default -> now.ink = Math.min(200, now.ink + Integer.parseInt(rest));
        }
        return now.today <= 36524;
    }

    int undo() {
        if (history.isEmpty()) {
            return -5;
        }
        now = history.remove(history.size() - 1);
        return history.size();
    }

    int keep() {
        snapshot = now.copy();
        return now.today;
    }

    int restore() {
        if (snapshot == null) {
            return -5;
        }
        act();
        now = snapshot.copy();
        return now.today;
    }

    int date(int day, int what) {
        if (out(day, 0, 36524)) {
            return -1;
        }
        if (out(what, 0, 3)) {
            return -2;
        }
        return Integer.parseInt(what == 3 ? DATES[day] : DATES[day].substring(2 * what, 2 * what + 2));
    }

    int day(int digits) {
        if (out(digits, 0, 999999)) {
            return -2;
        }
        return DAYS.getOrDefault(String.format("%06d", digits), -5);
    }

    int band(int place, int what) {
        if (out(place, 0, 5)) {
            return -1;
        }
        if (out(what, 0, 6)) {
            return -2;
        }
        Band band = now.bands.get(place);
        int[] sorted = band.wear.clone();
        java.util.Arrays.sort(sorted);
        int most = 0;
        while (band.wear[most] != sorted[9]) {
            most++;
        }
        int darkness = 40 + now.ink / 4 - band.wear[band.shown] + 100;
        return new int[] {band.number, band.shown, band.slack, sorted[9], sorted[0], most, darkness}[what];
    }

    int wear(int place, int digit) {
        if (out(place, 0, 5)) {
            return -1;
        }
        return out(digit, 0, 9) ? -2 : now.bands.get(place).wear[digit];
    }

    int print(int print, int what) {
        if (out(print, 0, 11) || print >= now.prints.size()) {
            return -1;
        }
        Print known = now.prints.get(print);
        return switch (what) {
            case 0 -> Integer.parseInt(known.digits);
            case 1 -> known.day;
            case 2 -> known.faint;
            case 3 -> known.smudged;
            case 4 -> known.right ? 1 : 0;
            case 5 -> known.strength;
            case 6 -> agreeing(known).size();
            case 7 -> agreeing(known).isEmpty() ? -5 : agreeing(known).get(0);
            default -> -2;
        };
    }

    private static List<Integer> agreeing(Print print) {
        List<Integer> days = new ArrayList<>();
        for (int day = 0; day < DATES.length; day++) {
            boolean agrees = true;
            for (int place = 0; place < 6 && agrees; place++) {
                boolean clear = ((print.faint | print.smudged) >> place & 1) == 0;
                agrees = !clear || DATES[day].charAt(place) == print.digits.charAt(place);
            }
            if (agrees) {
                days.add(day);
            }
        }
        return days;
    }

    int rightOf(int day) {
        return out(day, 0, 36524) ? -1 : now.right.getOrDefault(day, 0);
    }

    int count(int what) {
        return switch (what) {
            case 0 -> now.today;
            case 1 -> now.ink;
            case 2, 3, 4, 5, 6, 7 -> now.counts[what];
            case 8 -> now.shown().equals(DATES[now.today]) ? 1 : 0;
            case 9 -> DAYS.getOrDefault(now.shown(), -5);
            case 10 -> now.right.size();
            case 11 -> history.size();
            case 12 -> text.length();
            case 13, 14, 15 -> now.settings[what - 13];
            default -> -2;
        };
    }

    double even() {
        int sum = 0;
        int greatest = 0;
        for (Band band : now.bands) {
            for (int wear : band.wear) {
                sum += wear;
                greatest = Math.max(greatest, wear);
            }
        }
        return greatest == 0 ? 1.0 : sum / 60.0 / greatest;
    }

    int stepsTo(int day) {
        return out(day, 0, 36524) ? -1 : now.copy().adjust(DATES[day]);
    }

    int leastPress() {
        for (int strength = 1; strength <= 9; strength++) {
            State trial = now.copy();
            trial.press(strength);
            if (trial.prints.get(0).faint == 0 && trial.prints.get(0).smudged == 0) {
                return strength;
            }
        }
        return -5;
    }

    int lasts(int strength, int times) {
        return out(strength, 1, 9) || out(times, 1, 20) ? -2 : lasts(now.copy(), strength, times);
    }

    private static int lasts(State trial, int strength, int times) {
        int ink = trial.ink;
        for (int days = 0; days < 200 && trial.today <= 36524; days++) {
            trial.adjust(DATES[trial.today]);
            for (int time = 0; time < times; time++) {
                if (!trial.press(strength)) {
                    return days;
                }
            }
            trial.ink = ink;
            trial.today++;
        }
        return -5;
    }

    int bestExchange(int strength, int times) {
        if (out(strength, 1, 9) || out(times, 1, 20)) {
            return -2;
        }
        int best = -5;
        long longest = length(lasts(now.copy(), strength, times));
        for (int first = 0; first < 6; first++) {
            for (int second = first + 1; second < 6; second++) {
                State trial = now.copy();
                java.util.Collections.swap(trial.bands, first, second);
                long length = length(lasts(trial, strength, times));
                if (length > longest) {
                    longest = length;
                    best = 10 * first + second;
                }
            }
        }
        return best;
    }

    private static long length(int lasts) {
        return lasts == -5 ? Long.MAX_VALUE : lasts;
    }
}
