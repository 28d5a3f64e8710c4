/** A rubber stamp with six bands of digits for the date, that wear out and slip. */
public final class StampDater {
    /** There is no such place, band, print or day. */
    public static final int UNKNOWN = -1;
    /** Another argument is out of range. */
    public static final int BAD_VALUE = -2;
    /** There is no more room. */
    public static final int FULL = -3;
    /** There is no such thing; not an error. */
    public static final int NONE = -5;

    private static final int LAST_DAY = 36524;
    private static final int MOST_DAYS = 999;
    private static final int PLACES = 6;
    private static final int ALL_PLACES = 63;
    private static final int DIGITS = 10;
    private static final int MOST_WEAR = 99;
    private static final int MOST_SLACK = 99;
    private static final int MOST_INK = 200;
    private static final int FIRST_INK = 100;
    private static final int MOST_STRENGTH = 9;
    private static final int SLIPPING_STRENGTH = 7;
    private static final int MOST_TIMES = 99;
    private static final int KNOWN_PRINTS = 12;
    private static final int LEAST_CLEAR = 0;
    private static final int MOST_CLEAR = 1;
    private static final int LOOSE = 2;
    private static final int SETTINGS = 3;
    private static final int TEXT_ROOM = 60;
    private static final int HISTORY_ROOM = 4;
    private static final int MOST_TIMES_A_DAY = 20;
    /** Stands for "all prints are right", so that it is greater than every number of days that is told. */
    private static final int ENDLESS = 200;

    private final State state;
    private final History history;
    private final State snapshot;
    private boolean snapshotTaken;
    private final Text text;
    private final Stamp trial;

    /** Creates a stamp that shows 000000, on the day 0. */
    public StampDater() {
        state = new State();
        history = new History();
        snapshot = new State();
        snapshotTaken = false;
        text = new Text();
        trial = new Stamp();
    }

    // ---- days, adjusting

    /** Lets days pass (an act). Returns the day of today then; BAD_VALUE; FULL beyond the last day. */
    public int pass(int days) {
        if (!isWithin(days, 1, MOST_DAYS)) {
            return BAD_VALUE;
        }
        if (state.today + days > LAST_DAY) {
            return FULL;
        }
        history.remember(state);
        state.today += days;
        return state.today;
    }

    /** Adjusts the stamp to a day (an act). Returns the steps that the bands turn; UNKNOWN. */
    public int adjust(int day) {
        if (!Dates.isDay(day)) {
            return UNKNOWN;
        }
        history.remember(state);
        return state.stamp.showDigits(Dates.digitsOf(day));
    }

    /** Turns the band in a place (an act). Returns the digit that it shows then; UNKNOWN; BAD_VALUE. */
    public int turn(int place, int steps) {
        if (!isPlace(place)) {
            return UNKNOWN;
        }
        if (steps == 0 || !isWithin(steps, -9, 9)) {
            return BAD_VALUE;
        }
        history.remember(state);
        state.stamp.turnBand(place, steps);
        return state.stamp.bands[place].shown;
    }

    // ---- pressing, mending

    /** Presses the stamp (an act). Returns how many of these prints are right; BAD_VALUE. */
    public int press(int strength, int times) {
        if (!isStrength(strength) || !isWithin(times, 1, MOST_TIMES)) {
            return BAD_VALUE;
        }
        history.remember(state);
        return state.printTimes(strength, times);
    }

    /** Fills ink in (an act). Returns the ink then; BAD_VALUE; NONE if there is as much as can be already. */
    public int fill(int ink) {
        if (!isWithin(ink, 1, MOST_INK)) {
            return BAD_VALUE;
        }
        if (state.stamp.ink >= MOST_INK) {
            return NONE;
        }
        history.remember(state);
        state.stamp.addInk(ink);
        return state.stamp.ink;
    }

    /** Exchanges the bands in two places (an act). Returns the band in the first one; UNKNOWN; NONE if both are one. */
    public int exchange(int place, int other) {
        if (!isPlace(place) || !isPlace(other)) {
            return UNKNOWN;
        }
        if (place == other) {
            return NONE;
        }
        history.remember(state);
        state.stamp.swapBands(place, other);
        return state.stamp.bands[place].number;
    }

    /** Takes the slack from the band in a place (an act). Returns how much it had; UNKNOWN; NONE if it had none. */
    public int tighten(int place) {
        if (!isPlace(place)) {
            return UNKNOWN;
        }
        int slack = state.stamp.bands[place].slack;
        if (slack == 0) {
            return NONE;
        }
        history.remember(state);
        state.stamp.bands[place].slack = 0;
        return slack;
    }

    /** Puts a new band in a place (an act). Returns the wear of all digits of the old one together; UNKNOWN. */
    public int replace(int place) {
        if (!isPlace(place)) {
            return UNKNOWN;
        }
        history.remember(state);
        Band band = state.stamp.bands[place];
        int wear = band.allWear();
        band.renew();
        return wear;
    }

    /** Sets a setting (an act). Returns the previous one; BAD_VALUE; NONE if it is so already. */
    public int set(int which, int value) {
        if (!isSetting(which) || !isWithin(value, leastSetting(which), mostSetting(which))) {
            return BAD_VALUE;
        }
        int previous = state.stamp.settings[which];
        if (previous == value) {
            return NONE;
        }
        history.remember(state);
        state.stamp.settings[which] = value;
        return previous;
    }

    // ---- texts

    /** Appends a character to the text. Returns the length then; FULL. */
    public int type(char character) {
        return text.append(character) ? text.length : FULL;
    }

    /** Empties the text. Returns the length that it had. */
    public int clearText() {
        int length = text.length;
        text.length = 0;
        return length;
    }

    /** Returns the index of the first character that is not allowed, or the length if the text ends too early; NONE. */
    public int fault() {
        return text.findFault();
    }

    /** Does the orders of the text (one act). Returns how many there are; -100 minus the fault; FULL. */
    public int doAll() {
        int fault = text.findFault();
        if (fault != NONE) {
            return -100 - fault;
        }
        if (state.today + text.days > LAST_DAY) {
            return FULL;
        }
        history.remember(state);
        int orders = text.orders;
        text.begin();
        for (int order = 0; order < orders; order++) {
            if (text.readOrder()) {
                doOrder();
            }
            text.readMore();
        }
        return orders;
    }

    private void doOrder() {
        switch (text.kind) {
            case 'd':
                state.stamp.showDigits(text.number);
                break;
            case 'a':
                state.stamp.showDigits(Dates.digitsOf(state.today));
                break;
            case 'p':
                state.printTimes(text.number, text.times);
                break;
            case '+':
                state.today += text.number;
                break;
            case 'i':
                state.stamp.addInk(text.number);
                break;
            default:
                break;
        }
    }

    // ---- history

    /** Removes and restores the latest state of the history. Returns how many are left; NONE if there is none. */
    public int undo() {
        if (history.size == 0) {
            return NONE;
        }
        history.takeLatest(state);
        return history.size;
    }

    /** Takes a snapshot of the state. Returns the day of today. */
    public int keep() {
        snapshot.copyState(state);
        snapshotTaken = true;
        return state.today;
    }

    /** Restores the state of the snapshot (an act). Returns the day of today then; NONE if there is no snapshot. */
    public int restore() {
        if (!snapshotTaken) {
            return NONE;
        }
        history.remember(state);
        state.copyState(snapshot);
        return state.today;
    }

    // ---- what is told

    /** Tells the day of the month, the month, the year or the six digits of a day; UNKNOWN; BAD_VALUE. */
    public int date(int day, int what) {
        if (!Dates.isDay(day)) {
            return UNKNOWN;
        }
        int digits = Dates.digitsOf(day);
        switch (what) {
            case 0:
                return Dates.dayOfMonth(digits);
            case 1:
                return Dates.month(digits);
            case 2:
                return Dates.year(digits);
            case 3:
                return digits;
            default:
                return BAD_VALUE;
        }
    }

    /** Tells the day of a date of six digits; BAD_VALUE; NONE if there is no such date. */
    public int day(int digits) {
        if (!isWithin(digits, 0, 999999)) {
            return BAD_VALUE;
        }
        return Dates.dayOf(digits);
    }

    /** Tells about the band in a place; UNKNOWN; BAD_VALUE. */
    public int band(int place, int what) {
        if (!isPlace(place)) {
            return UNKNOWN;
        }
        Band band = state.stamp.bands[place];
        switch (what) {
            case 0:
                return band.number;
            case 1:
                return band.shown;
            case 2:
                return band.slack;
            case 3:
                return band.wearOf(band.mostWornDigit());
            case 4:
                return band.leastWear();
            case 5:
                return band.mostWornDigit();
            case 6:
                return state.stamp.darkness(band, 5) + 100;
            default:
                return BAD_VALUE;
        }
    }

    /** Tells the wear of a digit of the band in a place; UNKNOWN (place); BAD_VALUE. */
    public int wear(int place, int digit) {
        if (!isPlace(place)) {
            return UNKNOWN;
        }
        if (!isWithin(digit, 0, DIGITS - 1)) {
            return BAD_VALUE;
        }
        return state.stamp.bands[place].wearOf(digit);
    }

    /** Tells about a print, 0 for the latest one; UNKNOWN if there is no such print; BAD_VALUE. */
    public int print(int print, int what) {
        if (!state.isKnownPrint(print)) {
            return UNKNOWN;
        }
        Print known = state.prints[state.rowOfPrint(print)];
        switch (what) {
            case 0:
                return known.digits;
            case 1:
                return known.day;
            case 2:
                return known.faint;
            case 3:
                return known.smudged;
            case 4:
                return known.right ? 1 : 0;
            case 5:
                return known.strength;
            case 6:
                return Dates.daysAgreeing(known.digits, known.clearPlaces());
            case 7:
                return Dates.firstAgreeing(known.digits, known.clearPlaces());
            default:
                return BAD_VALUE;
        }
    }

    /** Tells how many right prints a day has; UNKNOWN. */
    public int rightOf(int day) {
        if (!Dates.isDay(day)) {
            return UNKNOWN;
        }
        return state.rightPrintsOf(day);
    }

    /** Tells a number of the whole; BAD_VALUE. */
    public int count(int what) {
        switch (what) {
            case 0:
                return state.today;
            case 1:
                return state.stamp.ink;
            case 2:
                return state.printed;
            case 3:
                return state.right;
            case 4:
                return state.faint;
            case 5:
                return state.smudged;
            case 6:
                return state.stamp.steps;
            case 7:
                return state.stamp.slips;
            case 8:
                return state.stamp.shownDigits() == Dates.digitsOf(state.today) ? 1 : 0;
            case 9:
                return Dates.dayOf(state.stamp.shownDigits());
            case 10:
                return state.rightDays == null ? 0 : state.rightDays.days;
            case 11:
                return history.size;
            case 12:
                return text.length;
            case 13:
            case 14:
            case 15:
                return state.stamp.settings[what - 13];
            default:
                return BAD_VALUE;
        }
    }

    /** Tells how even the wear is: the mean wear of all digits divided by the greatest; 1.0 if none is worn. */
    public double even() {
        int sum = 0;
        int greatest = 0;
        for (Band band : state.stamp.bands) {
            sum += band.allWear();
            greatest = Math.max(greatest, band.wearOf(band.mostWornDigit()));
        }
        if (greatest == 0) {
            return 1.0;
        }
        return sum / 60.0 / greatest;
    }

    // ---- what would be

    /** Tells how many steps adjusting to a day would take; UNKNOWN. */
    public int stepsTo(int day) {
        if (!Dates.isDay(day)) {
            return UNKNOWN;
        }
        return state.stamp.stepsToDigits(Dates.digitsOf(day));
    }

    /** Finds the least strength with which all digits would be clear now; NONE if there is none. */
    public int leastPress() {
        for (int strength = 1; strength <= MOST_STRENGTH; strength++) {
            if (state.stamp.allClear(strength)) {
                return strength;
            }
        }
        return NONE;
    }

    /** Tells behind how many days of pressing a print is not right for the first time; BAD_VALUE; NONE if all are. */
    public int lasts(int strength, int times) {
        if (!isStrength(strength) || !isWithin(times, 1, MOST_TIMES_A_DAY)) {
            return BAD_VALUE;
        }
        int days = daysOfTrial(0, 0, strength, times);
        return days == ENDLESS ? NONE : days;
    }

    /** Finds the exchange by which the stamp lasts the longest, as 10 times a place and the other; BAD_VALUE; NONE. */
    public int bestExchange(int strength, int times) {
        if (!isStrength(strength) || !isWithin(times, 1, MOST_TIMES_A_DAY)) {
            return BAD_VALUE;
        }
        int longest = daysOfTrial(0, 0, strength, times);
        int best = NONE;
        for (int first = 0; first < PLACES; first++) {
            // behind an endless one nothing lasts longer, and the earliest of the longest ones is asked for
            for (int second = first + 1; second < PLACES && longest < ENDLESS; second++) {
                int days = daysOfTrial(first, second, strength, times);
                if (days > longest) {
                    longest = days;
                    best = 10 * first + second;
                }
            }
        }
        return best;
    }

    /** The days of right prints of a stamp like this one with two bands exchanged; ENDLESS if no day ends them. */
    private int daysOfTrial(int first, int second, int strength, int times) {
        trial.copyStamp(state.stamp);
        trial.swapBands(first, second);
        int ink = trial.ink;
        for (int days = 0; days < ENDLESS && state.today + days <= LAST_DAY; days++) {
            int digits = Dates.digitsOf(state.today + days);
            trial.showDigits(digits);
            if (!trial.printsOnly(digits, strength, times)) {
                return days;
            }
            trial.ink = ink;
        }
        return ENDLESS;
    }

    // ---- ranges

    private static boolean isWithin(int value, int least, int most) {
        return value >= least && value <= most;
    }

    private static boolean isPlace(int place) {
        return isWithin(place, 0, PLACES - 1);
    }

    private static boolean isStrength(int strength) {
        return isWithin(strength, 1, MOST_STRENGTH);
    }

    private static boolean isSetting(int which) {
        return isWithin(which, 0, SETTINGS - 1);
    }

    private static int leastSetting(int which) {
        return which == LEAST_CLEAR ? 10 : which == MOST_CLEAR ? 60 : 1;
    }

    private static int mostSetting(int which) {
        return which == LEAST_CLEAR ? 60 : which == MOST_CLEAR ? 150 : 99;
    }

    /** The days of a hundred years, and their dates as six digits in one number. */
    private static final class Dates {
        private static final int YEARS = 100;
        private static final int MONTHS = 12;
        private static final int FEBRUARY = 2;
        private static final int LEAP_DAY = 29;
        private static final int DAYS_OF_FOUR_YEARS = 1461;
        private static final int[] LONGEST = {31, 29, 31, 30, 31, 30, 31, 31, 30, 31, 30, 31};

        static boolean isDay(int day) {
            return day >= 0 && day <= LAST_DAY;
        }

        static int dayOfMonth(int digits) {
            return digits / 10000;
        }

        static int month(int digits) {
            return digits / 100 % 100;
        }

        static int year(int digits) {
            return digits % 100;
        }

        /** The most days that a month has in any year; 0 if there is no such month. */
        static int longestOf(int month) {
            return month < 1 || month > LONGEST.length ? 0 : LONGEST[month - 1];
        }

        static int daysOf(int month, int year) {
            return month == FEBRUARY && !isLeap(year) ? LEAP_DAY - 1 : longestOf(month);
        }

        static boolean isLeap(int year) {
            return year % 4 == 0;
        }

        static int daysBefore(int year) {
            return 365 * year + (year + 3) / 4;
        }

        static int digitsOf(int day) {
            // counted without its first day, the leap year that begins four years is as long as the others
            int year = day / DAYS_OF_FOUR_YEARS * 4 + (day % DAYS_OF_FOUR_YEARS - 1) / 365;
            int rest = day - daysBefore(year);
            int month = 1;
            while (month < MONTHS && rest >= daysOf(month, year)) {
                rest -= daysOf(month, year);
                month++;
            }
            return 10000 * (rest + 1) + 100 * month + year;
        }

        /** The day of a date; NONE if there is no such date. */
        static int dayOf(int digits) {
            int year = year(digits);
            int month = month(digits);
            int dayOfMonth = dayOfMonth(digits);
            if (dayOfMonth < 1 || dayOfMonth > daysOf(month, year)) {
                return NONE;
            }
            int day = daysBefore(year) + dayOfMonth - 1;
            for (int earlier = 1; earlier < month; earlier++) {
                day += daysOf(earlier, year);
            }
            return day;
        }

        /** Whether some date begins with so many digits, if it is so that one begins with all of them but the last. */
        static boolean someBegins(int digits, int length) {
            switch (length) {
                case 1:
                    return digits <= 3;
                case 2:
                    return digits >= 1 && digits <= 31;
                case 3:
                    return digits % 10 <= 1;
                case 4:
                    return digits / 100 <= longestOf(digits % 100);
                case 5:
                    return true;
                default:
                    return dayOfMonth(digits) <= daysOf(month(digits), year(digits));
            }
        }

        /** How many days agree with the digits in the places of a set of bits. */
        static int daysAgreeing(int digits, int places) {
            int years = 0;
            int leapYears = 0;
            for (int year = 0; year < YEARS; year++) {
                if (yearAgrees(year, digits, places)) {
                    years++;
                    leapYears += isLeap(year) ? 1 : 0;
                }
            }
            int days = 0;
            for (int month = 1; month <= MONTHS; month++) {
                int agreeing = daysOfMonthAgreeing(month, digits, places);
                days += agreeing * years;
                if (month == FEBRUARY && agreeing > 0 && dayAgrees(LEAP_DAY, digits, places)) {
                    days -= years - leapYears;
                }
            }
            return days;
        }

        private static int daysOfMonthAgreeing(int month, int digits, int places) {
            if (!monthAgrees(month, digits, places)) {
                return 0;
            }
            int days = 0;
            for (int dayOfMonth = 1; dayOfMonth <= longestOf(month); dayOfMonth++) {
                days += dayAgrees(dayOfMonth, digits, places) ? 1 : 0;
            }
            return days;
        }

        /** The first day that agrees with the digits in the places of a set of bits; NONE if there is none. */
        static int firstAgreeing(int digits, int places) {
            // without any, the search would go through all days of all years
            if (daysAgreeing(digits, places) == 0) {
                return NONE;
            }
            for (int year = 0; year < YEARS; year++) {
                int day = yearAgrees(year, digits, places) ? firstAgreeingOf(year, digits, places) : NONE;
                if (day != NONE) {
                    return day;
                }
            }
            return NONE;
        }

        private static int firstAgreeingOf(int year, int digits, int places) {
            for (int month = 1; month <= MONTHS; month++) {
                int days = monthAgrees(month, digits, places) ? daysOf(month, year) : 0;
                for (int dayOfMonth = 1; dayOfMonth <= days; dayOfMonth++) {
                    if (dayAgrees(dayOfMonth, digits, places)) {
                        return dayOf(10000 * dayOfMonth + 100 * month + year);
                    }
                }
            }
            return NONE;
        }

        private static boolean dayAgrees(int dayOfMonth, int digits, int places) {
            return pairAgrees(dayOfMonth, dayOfMonth(digits), places);
        }

        private static boolean monthAgrees(int month, int digits, int places) {
            return pairAgrees(month, month(digits), places >> 2);
        }

        private static boolean yearAgrees(int year, int digits, int places) {
            return pairAgrees(year, year(digits), places >> 4);
        }

        /** Whether two digits agree with two others: in the tens by the lowest bit, in the ones by the next. */
        private static boolean pairAgrees(int pair, int other, int bits) {
            return ((bits & 1) == 0 || pair / 10 == other / 10) && ((bits & 2) == 0 || pair % 10 == other % 10);
        }
    }

    /** A ring of the digits 0 to 9, one of which is shown. */
    private static final class Band {
        int number;
        int shown;
        int slack;
        private final int[] wears;

        Band(int number) {
            this.number = number;
            wears = new int[DIGITS];
        }

        void copyBand(Band other) {
            number = other.number;
            shown = other.shown;
            slack = other.slack;
            System.arraycopy(other.wears, 0, wears, 0, DIGITS);
        }

        void renew() {
            shown = 0;
            slack = 0;
            for (int digit = 0; digit < wears.length; digit++) {
                wears[digit] = 0;
            }
        }

        /** The steps to a digit by the shorter way, below 0 if it goes back. */
        int wayTo(int digit) {
            int forward = Math.floorMod(digit - shown, DIGITS);
            return forward <= DIGITS / 2 ? forward : forward - DIGITS;
        }

        void turnBy(int steps) {
            shown = Math.floorMod(shown + steps, DIGITS);
            slack = Math.min(MOST_SLACK, slack + Math.abs(steps));
        }

        void slip() {
            shown = Math.floorMod(shown + 1, DIGITS);
            slack = 0;
        }

        void wearShown(int more) {
            if (shown >= 0 && shown < wears.length) {
                wears[shown] = Math.min(MOST_WEAR, wears[shown] + more);
            }
        }

        int wearOf(int digit) {
            return digit < 0 || digit >= wears.length ? 0 : wears[digit];
        }

        int allWear() {
            int all = 0;
            for (int wear : wears) {
                all += wear;
            }
            return all;
        }

        int leastWear() {
            int least = MOST_WEAR;
            for (int wear : wears) {
                least = Math.min(least, wear);
            }
            return least;
        }

        /** The digit with the greatest wear, of several the lowest. */
        int mostWornDigit() {
            int most = 0;
            for (int digit = 1; digit < wears.length; digit++) {
                if (wears[digit] > wearOf(most)) {
                    most = digit;
                }
            }
            return most;
        }
    }

    /** The bands in their places, the pad and the settings: all that a print depends on but the day. */
    private static final class Stamp {
        final Band[] bands;
        final int[] settings;
        int ink;
        int steps;
        int slips;
        /** The places that were faint and smudged in the print just made, as sets of bits; they go with no copy. */
        int faintPlaces;
        int smudgedPlaces;

        Stamp() {
            bands = new Band[PLACES];
            for (int place = 0; place < PLACES; place++) {
                bands[place] = new Band(place);
            }
            settings = new int[SETTINGS];
            settings[LEAST_CLEAR] = 30;
            settings[MOST_CLEAR] = 100;
            settings[LOOSE] = 40;
            ink = FIRST_INK;
        }

        void copyStamp(Stamp other) {
            for (int place = 0; place < PLACES; place++) {
                bands[place].copyBand(other.bands[place]);
            }
            System.arraycopy(other.settings, 0, settings, 0, SETTINGS);
            ink = other.ink;
            steps = other.steps;
            slips = other.slips;
        }

        int shownDigits() {
            int digits = 0;
            for (Band band : bands) {
                digits = 10 * digits + band.shown;
            }
            return digits;
        }

        /** Turns the bands until they show six digits, and tells the steps. */
        int showDigits(int digits) {
            int before = steps;
            int rest = digits;
            for (int place = PLACES - 1; place >= 0; place--) {
                turnBand(place, bands[place].wayTo(rest % 10));
                rest /= 10;
            }
            return steps - before;
        }

        int stepsToDigits(int digits) {
            int way = 0;
            int rest = digits;
            for (int place = PLACES - 1; place >= 0; place--) {
                way += Math.abs(bands[place].wayTo(rest % 10));
                rest /= 10;
            }
            return way;
        }

        void turnBand(int place, int by) {
            if (isPlace(place)) {
                bands[place].turnBy(by);
                steps += Math.abs(by);
            }
        }

        void swapBands(int place, int other) {
            if (isPlace(place) && isPlace(other)) {
                Band band = bands[place];
                bands[place] = bands[other];
                bands[other] = band;
            }
        }

        void addInk(int more) {
            ink = Math.min(MOST_INK, ink + more);
        }

        int darkness(Band band, int strength) {
            return 8 * strength + ink / 4 - band.wearOf(band.shown);
        }

        boolean allClear(int strength) {
            for (Band band : bands) {
                int darkness = darkness(band, strength);
                if (isFaint(darkness) || isSmudged(darkness)) {
                    return false;
                }
            }
            return true;
        }

        private boolean isFaint(int darkness) {
            return darkness < settings[LEAST_CLEAR];
        }

        private boolean isSmudged(int darkness) {
            return darkness > settings[MOST_CLEAR];
        }

        /** Prints once; tells whether these digits were printed, all of them clear. */
        boolean printOnce(int digits, int strength) {
            boolean shows = shownDigits() == digits;
            faintPlaces = 0;
            smudgedPlaces = 0;
            for (int place = 0; place < PLACES; place++) {
                int darkness = darkness(bands[place], strength);
                faintPlaces |= isFaint(darkness) ? 1 << place : 0;
                smudgedPlaces |= isSmudged(darkness) ? 1 << place : 0;
                bands[place].wearShown(1 + strength / 4);
            }
            ink = Math.max(0, ink - strength);
            if (strength >= SLIPPING_STRENGTH) {
                slipLooseBands();
            }
            return shows && faintPlaces == 0 && smudgedPlaces == 0;
        }

        private void slipLooseBands() {
            for (Band band : bands) {
                if (band.slack >= settings[LOOSE]) {
                    band.slip();
                    slips++;
                }
            }
        }

        /** Prints until a print is not these digits, all of them clear; tells whether so many times none was. */
        boolean printsOnly(int digits, int strength, int times) {
            for (int time = 0; time < times; time++) {
                if (!printOnce(digits, strength)) {
                    return false;
                }
            }
            return true;
        }
    }

    /** What is known of one print. */
    private static final class Print {
        int digits;
        int day;
        int faint;
        int smudged;
        boolean right;
        int strength;

        void copyPrint(Print other) {
            digits = other.digits;
            day = other.day;
            faint = other.faint;
            smudged = other.smudged;
            right = other.right;
            strength = other.strength;
        }

        int clearPlaces() {
            return ALL_PLACES & ~(faint | smudged);
        }
    }

    /**
     * The right prints of a day, and those of the days before. It never changes, so that states can share it: a state
     * that is kept holds the one that stood then.
     */
    private static final class RightDay {
        final int day;
        final int prints;
        final int days;
        final RightDay earlier;

        RightDay(int day, int prints, RightDay earlier) {
            this.day = day;
            this.prints = prints;
            this.days = earlier == null ? 1 : earlier.days + 1;
            this.earlier = earlier;
        }
    }

    /** Everything that is recorded, kept and restored. */
    private static final class State {
        final Stamp stamp;
        final Print[] prints;
        int today;
        int printed;
        int right;
        int faint;
        int smudged;
        /** The latest day with right prints, null without any; today never goes back, so they stand in their order. */
        RightDay rightDays;

        State() {
            stamp = new Stamp();
            prints = new Print[KNOWN_PRINTS];
            for (int row = 0; row < KNOWN_PRINTS; row++) {
                prints[row] = new Print();
            }
        }

        void copyState(State other) {
            stamp.copyStamp(other.stamp);
            for (int row = 0; row < KNOWN_PRINTS; row++) {
                prints[row].copyPrint(other.prints[row]);
            }
            today = other.today;
            printed = other.printed;
            right = other.right;
            faint = other.faint;
            smudged = other.smudged;
            rightDays = other.rightDays;
        }

        /** Prints so many times, and tells how many of these prints are right. */
        int printTimes(int strength, int times) {
            int digits = Dates.digitsOf(today);
            int before = right;
            for (int time = 0; time < times; time++) {
                Print print = prints[rowOfPrint(-1)];
                print.digits = stamp.shownDigits();
                print.right = stamp.printOnce(digits, strength);
                print.day = today;
                print.faint = stamp.faintPlaces;
                print.smudged = stamp.smudgedPlaces;
                print.strength = strength;
                countPrint(print);
            }
            addRightPrints(right - before);
            return right - before;
        }

        private void countPrint(Print print) {
            printed++;
            right += print.right ? 1 : 0;
            faint += Integer.bitCount(print.faint);
            smudged += Integer.bitCount(print.smudged);
        }

        private void addRightPrints(int more) {
            if (more == 0) {
                return;
            }
            if (rightDays != null && rightDays.day == today) {
                rightDays = new RightDay(today, rightDays.prints + more, rightDays.earlier);
            } else {
                rightDays = new RightDay(today, more, rightDays);
            }
        }

        boolean isKnownPrint(int print) {
            return print >= 0 && print < KNOWN_PRINTS && print < printed;
        }

        /** The row of a print, 0 for the latest one, -1 for the one to come, which takes the row of the oldest one. */
        int rowOfPrint(int print) {
            return Math.floorMod(printed - 1 - print, KNOWN_PRINTS);
        }

        int rightPrintsOf(int day) {
            for (RightDay known = rightDays; known != null; known = known.earlier) {
                if (known.day == day) {
                    return known.prints;
                }
            }
            return 0;
        }
    }

    /** The latest states, the oldest one first. */
    private static final class History {
        private final State[] states;
        int size;

        History() {
            states = new State[HISTORY_ROOM];
            for (int row = 0; row < HISTORY_ROOM; row++) {
                states[row] = new State();
            }
        }

        void remember(State state) {
            if (size >= HISTORY_ROOM) {
                dropOldest();
            }
            if (size >= 0 && size < HISTORY_ROOM) {
                states[size].copyState(state);
                size++;
            }
        }

        /** The object of the oldest state goes behind the others, to be used again. */
        private void dropOldest() {
            State oldest = states[0];
            for (int row = 1; row < HISTORY_ROOM; row++) {
                states[row - 1] = states[row];
            }
            states[HISTORY_ROOM - 1] = oldest;
            size = HISTORY_ROOM - 1;
        }

        void takeLatest(State state) {
            if (size > 0 && size <= HISTORY_ROOM) {
                size--;
                state.copyState(states[size]);
            }
        }
    }

    /** The text of orders, and the order that was read last. */
    private static final class Text {
        private static final int ENDED = -1;

        private final char[] characters;
        int length;
        /** How many orders the text has, and how many days pass by them, if findFault() found none. */
        int orders;
        int days;
        int kind;
        int number;
        int times;
        private int at;

        Text() {
            characters = new char[TEXT_ROOM];
        }

        boolean append(char character) {
            if (length < 0 || length >= TEXT_ROOM) {
                return false;
            }
            characters[length] = character;
            length++;
            return true;
        }

        void begin() {
            at = 0;
        }

        /** The fault of the text; NONE if it has none. */
        int findFault() {
            begin();
            orders = 0;
            days = 0;
            for (int character = 0; character <= length; character++) {
                if (!readOrder()) {
                    return at;
                }
                orders++;
                days += kind == '+' ? number : 0;
                if (at >= length) {
                    return NONE;
                }
                if (!readMore()) {
                    return at;
                }
            }
            return at;
        }

        /** Reads the ";" between two orders, if it stands here. */
        boolean readMore() {
            return readSign(';');
        }

        /** Reads an order; if it is none, the reading stops at its fault. */
        boolean readOrder() {
            kind = next();
            switch (kind) {
                case 'd':
                    at++;
                    return readDate();
                case 'a':
                    at++;
                    return true;
                case 'p':
                    at++;
                    return readPress();
                case '+':
                    at++;
                    return readNumber(MOST_DAYS);
                case 'i':
                    at++;
                    return readNumber(MOST_INK);
                default:
                    return false;
            }
        }

        private boolean readPress() {
            times = 1;
            if (!readNumber(MOST_STRENGTH)) {
                return false;
            }
            if (!readSign('x')) {
                return true;
            }
            int strength = number;
            boolean isRead = readNumber(MOST_TIMES);
            times = number;
            number = strength;
            return isRead;
        }

        private boolean readDate() {
            number = 0;
            for (int read = 1; read <= PLACES; read++) {
                int digit = nextDigit();
                if (digit == ENDED || !Dates.someBegins(10 * number + digit, read)) {
                    return false;
                }
                number = 10 * number + digit;
                at++;
            }
            return true;
        }

        /** Reads a number as far as its digits are allowed; false if not even the first one is. */
        private boolean readNumber(int most) {
            number = 0;
            for (int read = 0; read < TEXT_ROOM; read++) {
                int digit = nextDigit();
                boolean isZeroInFront = digit == 0 && number == 0;
                if (digit == ENDED || isZeroInFront || 10 * number + digit > most) {
                    break;
                }
                number = 10 * number + digit;
                at++;
            }
            return number > 0;
        }

        private boolean readSign(char sign) {
            if (next() != sign) {
                return false;
            }
            at++;
            return true;
        }

        /** The digit that stands here; ENDED if none does. */
        private int nextDigit() {
            int character = next();
            return character >= '0' && character <= '9' ? character - '0' : ENDED;
        }

        /** The character that stands here; ENDED behind the text. */
        private int next() {
            return at >= 0 && at < length && at < TEXT_ROOM ? characters[at] : ENDED;
        }
    }
}
