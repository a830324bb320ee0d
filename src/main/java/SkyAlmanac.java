import java.util.NoSuchElementException;

/**
 * An almanac: day numbers of two calendars, bodies that go by an orbit and by series of waves,
 * where they stand for an observer, when they rise, set and are highest, and angles written out.
 */
public final class SkyAlmanac {
    /** Nothing there. */
    public static final int NONE = -1;

    private static final int JULIAN = 0;
    private static final int GREGORIAN = 1;
    private static final int MIXED = 2;
    private static final int LARGEST_YEAR = 1000000;
    private static final long LARGEST_DAY = 400000000L;
    private static final long LAST_JULIAN_DAY = 2299160L;
    private static final long LAST_JULIAN_ORDER = 15821004L;
    private static final int YEAR_OF_CHANGE = 1582;
    private static final int DAYS_LEFT_OUT = 10;
    private static final int[] MONTH_LENGTHS = {31, 28, 31, 30, 31, 30, 31, 31, 30, 31, 30, 31};

    private static final int WHAT_YEAR = 0;
    private static final int WHAT_MONTH = 1;
    private static final int WHAT_DAY_WITHIN_YEAR = 3;

    private static final int BODIES = 4;
    private static final int MOST_TERMS = 12;
    private static final int MOST_ANOMALY_STEPS = 4;
    private static final int LARGEST_TIME = 1000000;

    private static final int RISING = 0;
    private static final int HIGHEST = 2;
    private static final int PARTS_OF_DAY = 16;
    private static final int HALVINGS = 20;
    private static final int THIRDINGS = 24;

    private static final int MOST_PLACES = 4;
    private static final int MOST_LETTERS = 24;
    private static final long[] TENS = {1L, 10L, 100L, 1000L, 10000L, 100000L};

    private final Body[] bodies;
    private final char[] written;
    private int writtenLength;
    private double latitude;
    private double eastward;
    private int longitudesWorkedOut;
    private int longitudesFailed;

    public SkyAlmanac() {
        bodies = new Body[BODIES];
        for (int i = 0; i < BODIES; i++) {
            bodies[i] = new Body();
        }
        written = new char[MOST_LETTERS];
        writtenLength = 0;
        latitude = 0;
        eastward = 0;
        longitudesWorkedOut = 0;
        longitudesFailed = 0;
    }

    /** An orbit and the terms of its waves, which wait unset until the first orbit is given. */
    private static final class Body {
        private boolean isSet;
        private double orbitL;
        private double orbitN;
        private double orbitE;
        private double orbitW;
        private int terms;
        private final int[] powers = new int[MOST_TERMS];
        private final double[] factors = new double[MOST_TERMS];
        private final double[] starts = new double[MOST_TERMS];
        private final double[] speeds = new double[MOST_TERMS];

        private double sumOfPower(int power, double t) {
            double sum = 0;
            for (int i = 0; i < terms && i < MOST_TERMS; i++) {
                if (powers[i] == power) {
                    sum = sum + factors[i] * cosine(starts[i] + speeds[i] * t);
                }
            }
            return sum;
        }
    }

    // Calendars

    public long day(int calendar, int year, int month, int date) throws IllegalArgumentException {
        if (!isWholeWithin(calendar, JULIAN, MIXED)) {
            throw new IllegalArgumentException("no such calendar");
        }
        if (!isWholeWithin(year, -LARGEST_YEAR, LARGEST_YEAR)) {
            throw new IllegalArgumentException("no such year");
        }
        int rules = calendar;
        if (calendar == MIXED) {
            long order = (year * 100L + month) * 100L + date;
            rules = order <= LAST_JULIAN_ORDER ? JULIAN : GREGORIAN;
        }
        if (!isWholeWithin(date, 1, monthLength(rules, year, month))) {
            throw new IllegalArgumentException("no such date");
        }
        long number = firstDayOfYear(rules, year) + daysBeforeMonth(rules, year, month) + date - 1;
        // The dates that were left out are Gregorian by their order, but lie before the change.
        if (calendar == MIXED && rules == GREGORIAN && number <= LAST_JULIAN_DAY) {
            throw new IllegalArgumentException("this date was left out");
        }
        return number;
    }

    public int date(int calendar, long day, int what) throws IllegalArgumentException {
        if (!isWholeWithin(calendar, JULIAN, MIXED)) {
            throw new IllegalArgumentException("no such calendar");
        }
        if (!isWholeWithin(day, -LARGEST_DAY, LARGEST_DAY)) {
            throw new IllegalArgumentException("no such day number");
        }
        if (!isWholeWithin(what, WHAT_YEAR, WHAT_DAY_WITHIN_YEAR)) {
            throw new IllegalArgumentException("no such part of a date");
        }
        int rules = calendar;
        if (calendar == MIXED) {
            rules = day <= LAST_JULIAN_DAY ? JULIAN : GREGORIAN;
        }
        int year = yearOfDay(rules, day);
        if (!isWholeWithin(year, -LARGEST_YEAR, LARGEST_YEAR)) {
            throw new IllegalArgumentException("the year is out of range");
        }
        if (what == WHAT_YEAR) {
            return year;
        }
        int withinYear = (int) (day - firstDayOfYear(rules, year)) + 1;
        if (what == WHAT_DAY_WITHIN_YEAR) {
            boolean afterGap = calendar == MIXED && rules == GREGORIAN && year == YEAR_OF_CHANGE;
            return afterGap ? withinYear - DAYS_LEFT_OUT : withinYear;
        }
        int month = monthOfDayWithinYear(rules, year, withinYear);
        return what == WHAT_MONTH ? month : withinYear - daysBeforeMonth(rules, year, month);
    }

    public long easter(int year) throws IllegalArgumentException {
        if (!isWholeWithin(year, 1583, 9999)) {
            throw new IllegalArgumentException("no Easter is told for this year");
        }
        int g = year % 19;
        int c = year / 100;
        int h = Math.floorMod(c - c / 4 - (8 * c + 13) / 25 + 19 * g + 15, 30);
        int late = h / 28;
        int i = h - late * (1 - late * (29 / (h + 1)) * ((21 - g) / 11));
        int j = Math.floorMod(year + year / 4 + i + 2 - c + c / 4, 7);
        int n = i - j;
        long lastOfFebruary = firstDayOfYear(GREGORIAN, year) + daysBeforeMonth(GREGORIAN, year, 3) - 1;
        return lastOfFebruary + 28 + n;
    }

    private static boolean isLeap(int rules, int year) {
        if (year % 4 != 0) {
            return false;
        }
        return rules == JULIAN || year % 100 != 0 || year % 400 == 0;
    }

    /** 0 for a month that there is not, so that no day of it is a date. */
    private static int monthLength(int rules, int year, int month) {
        if (month < 1 || month > MONTH_LENGTHS.length) {
            return 0;
        }
        int length = MONTH_LENGTHS[month - 1];
        return month == 2 && isLeap(rules, year) ? length + 1 : length;
    }

    private static int daysBeforeMonth(int rules, int year, int month) {
        int days = 0;
        for (int before = 1; before < month && before <= MONTH_LENGTHS.length; before++) {
            days += monthLength(rules, year, before);
        }
        return days;
    }

    private static int monthOfDayWithinYear(int rules, int year, int withinYear) {
        int month = MONTH_LENGTHS.length;
        while (month > 1 && daysBeforeMonth(rules, year, month) >= withinYear) {
            month--;
        }
        return month;
    }

    private static long firstDayOfYear(int rules, int year) {
        long days = 365L * year + Math.floorDiv(year + 3, 4);
        if (rules == JULIAN) {
            return days + 1721058L;
        }
        return days - Math.floorDiv(year + 99, 100) + Math.floorDiv(year + 399, 400) + 1721060L;
    }

    private static int yearOfDay(int rules, long day) {
        // The mean year misses the true one by one at the most, as leap days lag or lead by few days.
        long daysOf400Years = rules == JULIAN ? 146100L : 146097L;
        long sinceYear0 = day - firstDayOfYear(rules, 0);
        int year = (int) Math.floorDiv(sinceYear0 * 400L, daysOf400Years);
        if (firstDayOfYear(rules, year) > day) {
            return year - 1;
        }
        return firstDayOfYear(rules, year + 1) <= day ? year + 1 : year;
    }

    // Bodies and the observer

    public boolean orbit(int body, double l, double n, double e, double w)
            throws IndexOutOfBoundsException, IllegalArgumentException {
        if (body < 0 || body >= bodies.length) {
            throw new IndexOutOfBoundsException("no such body");
        }
        if (!isWithin(l, -360, 360) || !isWithin(n, -100, 100)
                || !isWithin(e, 0, 0.75) || !isWithin(w, -360, 360)) {
            throw new IllegalArgumentException("no such orbit");
        }
        Body one = bodies[body];
        boolean wasNotSet = !one.isSet;
        one.isSet = true;
        one.orbitL = l;
        one.orbitN = n;
        one.orbitE = e;
        one.orbitW = w;
        return wasNotSet;
    }

    public int term(int body, int power, double a, double b, double c)
            throws NoSuchElementException, IllegalArgumentException, IllegalStateException {
        Body one = bodyThatIsSet(body);
        if (!isWholeWithin(power, 0, 2) || !isWithin(a, -10, 10)
                || !isWithin(b, -360, 360) || !isWithin(c, -100, 100)) {
            throw new IllegalArgumentException("no such term");
        }
        int place = one.terms;
        if (place < 0 || place >= MOST_TERMS) {
            throw new IllegalStateException("the body has all its terms");
        }
        one.powers[place] = power;
        one.factors[place] = a;
        one.starts[place] = b;
        one.speeds[place] = c;
        one.terms = place + 1;
        return one.terms;
    }

    public boolean observer(double f, double g) throws IllegalArgumentException {
        if (!isWithin(f, -90, 90) || !isWithin(g, -180, 180)) {
            throw new IllegalArgumentException("no such place");
        }
        boolean changed = f != latitude || g != eastward;
        latitude = f;
        eastward = g;
        return changed;
    }

    private Body bodyThatIsSet(int body) {
        if (body < 0 || body >= bodies.length || !bodies[body].isSet) {
            throw new NoSuchElementException("no such body is set");
        }
        return bodies[body];
    }

    // Where a body stands

    public double longitude(int body, double t)
            throws NoSuchElementException, IllegalArgumentException, IllegalStateException {
        Body one = bodyThatIsSet(body);
        if (!isTime(t)) {
            throw new IllegalArgumentException("the time is out of range");
        }
        return longitudeOf(one, t);
    }

    public double height(int body, double t)
            throws NoSuchElementException, IllegalArgumentException, IllegalStateException {
        Body one = bodyThatIsSet(body);
        if (!isTime(t)) {
            throw new IllegalArgumentException("the time is out of range");
        }
        return heightOf(one, t);
    }

    public double sidereal(double t) throws IllegalArgumentException {
        if (!isTime(t)) {
            throw new IllegalArgumentException("the time is out of range");
        }
        return siderealAngle(t);
    }

    public int count(boolean failed) {
        return failed ? longitudesFailed : longitudesWorkedOut;
    }

    private double longitudeOf(Body one, double t) {
        longitudesWorkedOut++;
        double e = one.orbitE;
        double x = anomalyOf(one, red(one.orbitL + one.orbitN * t - one.orbitW));
        double y = x + e * degreesInRadian() * sine(x) + 0.5 * e * e * degreesInRadian() * sine(2 * x);
        double h = t / 1000;
        double waves = one.sumOfPower(0, t) + h * (one.sumOfPower(1, t) + h * one.sumOfPower(2, t));
        return red(y + one.orbitW + waves);
    }

    private double anomalyOf(Body one, double m) {
        double e = one.orbitE;
        double x = m;
        for (int step = 0; step < MOST_ANOMALY_STEPS; step++) {
            double d = (x - e * degreesInRadian() * sine(x) - m) / (1 - e * cosine(x));
            x = x - d;
            if (d > -0.000001 && d < 0.000001) {
                return x;
            }
        }
        longitudesFailed++;
        throw new IllegalStateException("the anomaly fails");
    }

    private double heightOf(Body one, double t) {
        double l = longitudeOf(one, t);
        double x = cosine(l);
        double y = sine(l) * 0.9174820620691818;
        double z = sine(l) * 0.3977771559319137;
        double g = siderealAngle(t) + eastward;
        return cosine(latitude) * (x * cosine(g) + y * sine(g)) + sine(latitude) * z;
    }

    private static double siderealAngle(double t) {
        return red(red(280.46061837 + 0.98564736629 * t) + 360 * (t - (long) t));
    }

    // Events

    public double event(int body, int kind, int day)
            throws IllegalArgumentException, NoSuchElementException, IllegalStateException {
        if (!isWholeWithin(kind, RISING, HIGHEST)) {
            throw new IllegalArgumentException("no such kind of event");
        }
        if (!isWholeWithin(day, 1 - LARGEST_TIME, LARGEST_TIME - 2)) {
            throw new IllegalArgumentException("the day is out of range");
        }
        Body one = bodyThatIsSet(body);
        if (kind == HIGHEST) {
            return narrowedToHighest(one, day, partOfGreatestHeight(one, day));
        }
        boolean rises = kind == RISING;
        int part = partOfCrossing(one, day, rises);
        if (part == NONE) {
            throw new NoSuchElementException("no such event on this day");
        }
        return narrowedToCrossing(one, day, part, rises);
    }

    private static double timeOfPart(int day, int part) {
        return day + part / (double) PARTS_OF_DAY;
    }

    private int partOfCrossing(Body one, int day, boolean rises) {
        boolean upBefore = heightOf(one, timeOfPart(day, 0)) >= 0;
        for (int part = 1; part <= PARTS_OF_DAY; part++) {
            boolean up = heightOf(one, timeOfPart(day, part)) >= 0;
            if (up == rises && upBefore != rises) {
                return part;
            }
            upBefore = up;
        }
        return NONE;
    }

    private double narrowedToCrossing(Body one, int day, int part, boolean rises) {
        double a = timeOfPart(day, part - 1);
        double b = timeOfPart(day, part);
        for (int i = 0; i < HALVINGS; i++) {
            double m = (a + b) / 2;
            // A rising body is up at b, a setting one is not, and b only moves to where that stays so.
            if ((heightOf(one, m) >= 0) == rises) {
                b = m;
            } else {
                a = m;
            }
        }
        return b;
    }

    private int partOfGreatestHeight(Body one, int day) {
        int best = 1;
        double greatest = heightOf(one, timeOfPart(day, 1));
        for (int part = 2; part < PARTS_OF_DAY; part++) {
            double here = heightOf(one, timeOfPart(day, part));
            if (here > greatest) {
                best = part;
                greatest = here;
            }
        }
        return best;
    }

    private double narrowedToHighest(Body one, int day, int part) {
        double a = timeOfPart(day, part - 1);
        double b = timeOfPart(day, part + 1);
        for (int i = 0; i < THIRDINGS; i++) {
            double m = a + (b - a) / 3;
            double n = b - (b - a) / 3;
            double heightAtM = heightOf(one, m);
            double heightAtN = heightOf(one, n);
            if (heightAtM < heightAtN) {
                a = m;
            } else {
                b = n;
            }
        }
        return (a + b) / 2;
    }

    // Angles written out

    public int write(double angle, int places) throws IllegalArgumentException {
        if (!isWithin(angle, -100000, 100000)) {
            throw new IllegalArgumentException("the angle is out of range");
        }
        if (!isWholeWithin(places, 0, MOST_PLACES)) {
            throw new IllegalArgumentException("no such number of places");
        }
        long second = tenToThe(places);
        double amount = angle < 0 ? -angle : angle;
        long units = (long) (amount * 3600 * second + 0.5);
        long seconds = wholeParts(units, second);
        writtenLength = 0;
        if (angle < 0 && units > 0) {
            put('-');
        }
        putNumber(seconds / 3600, 1);
        put('d');
        putNumber(seconds / 60 % 60, 2);
        put('m');
        putNumber(seconds % 60, 2);
        if (places > 0) {
            put('.');
            putNumber(units - seconds * second, places);
        }
        put('s');
        return writtenLength;
    }

    public int letter(int i) throws IndexOutOfBoundsException {
        if (i < 0 || i >= writtenLength || i >= written.length) {
            throw new IndexOutOfBoundsException("no such letter");
        }
        return written[i];
    }

    public double angle(int sign, int d, int m, double s) throws IllegalArgumentException {
        if (sign != 1 && sign != -1) {
            throw new IllegalArgumentException("no such sign");
        }
        if (!isWholeWithin(d, 0, 360) || !isWholeWithin(m, 0, 59) || !(s >= 0 && s < 60)) {
            throw new IllegalArgumentException("no such angle");
        }
        return sign * (d + m / 60.0 + s / 3600);
    }

    private static long tenToThe(int power) {
        return power >= 0 && power < TENS.length ? TENS[power] : 1L;
    }

    private static long wholeParts(long units, long part) {
        return part > 0 ? units / part : units;
    }

    private void put(char sign) {
        if (writtenLength >= 0 && writtenLength < written.length) {
            written[writtenLength] = sign;
            writtenLength++;
        }
    }

    private void putNumber(long number, int fewestDigits) {
        for (int place = TENS.length - 1; place >= 0; place--) {
            if (place < fewestDigits || number >= TENS[place]) {
                put((char) ('0' + wholeParts(number, TENS[place]) % 10));
            }
        }
    }

    // Numbers

    private static boolean isWholeWithin(long number, long least, long most) {
        return number >= least && number <= most;
    }

    /** False for what is not a number, too. */
    private static boolean isWithin(double number, double least, double most) {
        return number >= least && number <= most;
    }

    private static boolean isTime(double t) {
        return isWithin(t, -LARGEST_TIME, LARGEST_TIME);
    }

    /** A method, since a constant may not be a double here. */
    private static double degreesInRadian() {
        return 57.29577951308232;
    }

    private static double red(double x) {
        double rest = x - 360 * (long) (x / 360);
        if (rest < 0) {
            rest = rest + 360;
        }
        return rest == 360 ? 0 : rest;
    }

    private static double sine(double x) {
        return waveAt(red(x), 0);
    }

    private static double cosine(double x) {
        return waveAt(red(x), 1);
    }

    /** The sine of a reduced angle that is so many quarter turns further on. */
    private static double waveAt(double x, int quartersOn) {
        int k = (int) (x / 90 + 0.5);
        double r = (x - 90 * k) * 0.017453292519943295;
        double q = r * r;
        double u = r * (1 + q * (-0.16666666666666666 + q * (0.008333333333333333
                + q * (-0.0001984126984126984 + q * 0.0000027557319223985893))));
        double v = 1 + q * (-0.5 + q * (0.041666666666666664 + q * (-0.001388888888888889
                + q * (0.0000248015873015873 + q * -0.0000002755731922398589))));
        int quarter = (k + quartersOn) % 4;
        double size = quarter % 2 == 0 ? u : v;
        return quarter < 2 ? size : -size;
    }
}
