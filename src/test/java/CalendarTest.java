/** Promises 2 (day), 3 (date) and 4 (easter). */
public final class CalendarTest {
    private static final Due DUE = new Due();
    private static final int JULIAN = 0;
    private static final int GREGORIAN = 1;
    private static final int MIXED = 2;

    private static SkyAlmanac sky = new SkyAlmanac();
    private static int used = 0;

    /** An object is promised for 512 calls only. */
    private static SkyAlmanac sky() {
        if (used == 512) {
            sky = new SkyAlmanac();
            used = 0;
        }
        used++;
        return sky;
    }

    public static void main(String[] args) {
        knownDays();
        noSuchDates();
        leftOutDates();
        partsOfDates();
        noSuchParts();
        stepByStep(JULIAN, -4712, 1, 1);
        stepByStep(GREGORIAN, -4713, 11, 24);
        stepByStep(MIXED, -4712, 1, 1);
        yearsRoundTrip();
        easters();
        DUE.end();
    }

    private static void day(int calendar, int year, int month, int date, Object want) {
        String call = "day(" + calendar + ", " + year + ", " + month + ", " + date + ")";
        DUE.answer(call, want, () -> sky().day(calendar, year, month, date));
    }

    private static void date(int calendar, long day, int what, Object want) {
        DUE.answer("date(" + calendar + ", " + day + ", " + what + ")", want, () -> sky().date(calendar, day, what));
    }

    private static void dates(int calendar, long day, int year, int month, int date, int withinYear) {
        date(calendar, day, 0, year);
        date(calendar, day, 1, month);
        date(calendar, day, 2, date);
        date(calendar, day, 3, withinYear);
    }

    private static void knownDays() {
        day(JULIAN, -4712, 1, 1, 0);
        day(GREGORIAN, -4713, 11, 24, 0);
        day(JULIAN, -4713, 12, 31, -1);
        day(GREGORIAN, 2000, 1, 1, 2451545);
        day(MIXED, 2000, 1, 1, 2451545);
        day(JULIAN, 1999, 12, 19, 2451545);
        day(JULIAN, 1582, 10, 4, 2299160);
        day(GREGORIAN, 1582, 10, 14, 2299160);
        day(GREGORIAN, 1970, 1, 1, 2440588);
        day(GREGORIAN, 1, 1, 1, 1721426);
        day(JULIAN, 1, 1, 1, 1721424);
        day(JULIAN, 0, 2, 29, 1721117);
        day(GREGORIAN, 2000, 2, 29, 2451604);
        day(GREGORIAN, -400, 2, 29, 1575022);
        day(GREGORIAN, 1000000, 12, 31, 366963925);
        day(GREGORIAN, -1000000, 1, 1, -363521440);
        day(JULIAN, 1000000, 12, 31, 366971423);
        day(JULIAN, -1000000, 1, 1, -363528942);
    }

    private static void noSuchDates() {
        int[] noCalendars = {-1, 3, Integer.MIN_VALUE, Integer.MAX_VALUE};
        for (int calendar : noCalendars) {
            day(calendar, 2000, 1, 1, Due.ARGUMENT);
        }
        int[] lengths = {31, 29, 31, 30, 31, 30, 31, 31, 30, 31, 30, 31};
        for (int calendar = 0; calendar <= 2; calendar++) {
            for (int month = 1; month <= 12; month++) {
                day(calendar, 2000, month, 0, Due.ARGUMENT);
                day(calendar, 2000, month, lengths[month - 1] + 1, Due.ARGUMENT);
                day(calendar, 2000, month, Integer.MAX_VALUE, Due.ARGUMENT);
                day(calendar, 2000, month, Integer.MIN_VALUE, Due.ARGUMENT);
            }
            day(calendar, 2000, 0, 1, Due.ARGUMENT);
            day(calendar, 2000, 13, 1, Due.ARGUMENT);
            day(calendar, 2000, Integer.MAX_VALUE, 1, Due.ARGUMENT);
            day(calendar, 2000, Integer.MIN_VALUE, 1, Due.ARGUMENT);
            day(calendar, 1000001, 1, 1, Due.ARGUMENT);
            day(calendar, -1000001, 12, 31, Due.ARGUMENT);
            day(calendar, Integer.MAX_VALUE, 1, 1, Due.ARGUMENT);
            day(calendar, Integer.MIN_VALUE, 1, 1, Due.ARGUMENT);
            day(calendar, 1999, 2, 29, Due.ARGUMENT);
            day(calendar, -1, 2, 29, Due.ARGUMENT);
        }
        day(GREGORIAN, 1900, 2, 29, Due.ARGUMENT);
        day(GREGORIAN, -100, 2, 29, Due.ARGUMENT);
        day(GREGORIAN, 1500, 2, 29, Due.ARGUMENT);
        day(JULIAN, 1900, 2, 29, 2415092);
        day(MIXED, 1900, 2, 29, Due.ARGUMENT);
        day(MIXED, 1500, 2, 29, 2268992);
        day(JULIAN, 1500, 2, 29, 2268992);
    }

    private static void leftOutDates() {
        day(MIXED, 1582, 10, 4, 2299160);
        for (int date = 5; date <= 14; date++) {
            day(MIXED, 1582, 10, date, Due.ARGUMENT);
        }
        day(MIXED, 1582, 10, 15, 2299161);
        day(MIXED, 1582, 10, 31, 2299177);
        day(MIXED, 1582, 10, 32, Due.ARGUMENT);
        day(MIXED, 1582, 9, 30, 2299156);
        day(MIXED, 1582, 9, 31, Due.ARGUMENT);
        day(MIXED, 1582, 9, 110, Due.ARGUMENT);
        day(MIXED, 1582, 11, 10, 2299187);
        day(MIXED, 1583, 10, 10, 2299521);
        day(MIXED, 1581, 10, 10, 2298801);
    }

    private static void partsOfDates() {
        dates(JULIAN, 0, -4712, 1, 1, 1);
        dates(GREGORIAN, 0, -4713, 11, 24, 328);
        dates(JULIAN, -1, -4713, 12, 31, 365);
        dates(JULIAN, 2299160, 1582, 10, 4, 277);
        dates(GREGORIAN, 2299160, 1582, 10, 14, 287);
        dates(MIXED, 2299160, 1582, 10, 4, 277);
        dates(MIXED, 2299161, 1582, 10, 15, 278);
        dates(GREGORIAN, 2299161, 1582, 10, 15, 288);
        dates(JULIAN, 2299161, 1582, 10, 5, 278);
        dates(MIXED, 2299238, 1582, 12, 31, 355);
        dates(MIXED, 2299239, 1583, 1, 1, 1);
        dates(GREGORIAN, 2451604, 2000, 2, 29, 60);
        dates(GREGORIAN, 2451605, 2000, 3, 1, 61);
        dates(GREGORIAN, 2451910, 2000, 12, 31, 366);
        dates(GREGORIAN, 366963925, 1000000, 12, 31, 366);
        dates(GREGORIAN, -363521440, -1000000, 1, 1, 1);
        dates(MIXED, -363528942, -1000000, 1, 1, 1);
        dates(JULIAN, 366971423, 1000000, 12, 31, 366);
    }

    private static void noSuchParts() {
        long[] noDays = {400000000L, -400000000L, 400000001L, -400000001L, Long.MAX_VALUE, Long.MIN_VALUE,
            4294967296L, 370000000L, -370000000L};
        for (int what = 0; what <= 3; what++) {
            for (int calendar = 0; calendar <= 2; calendar++) {
                for (long day : noDays) {
                    date(calendar, day, what, Due.ARGUMENT);
                }
            }
            date(GREGORIAN, 366963926, what, Due.ARGUMENT);
            date(MIXED, 366963926, what, Due.ARGUMENT);
            date(JULIAN, 366971424, what, Due.ARGUMENT);
            date(GREGORIAN, -363521441, what, Due.ARGUMENT);
            date(JULIAN, -363528943, what, Due.ARGUMENT);
            date(MIXED, -363528943, what, Due.ARGUMENT);
            date(-1, 0, what, Due.ARGUMENT);
            date(3, 0, what, Due.ARGUMENT);
        }
        int[] noWhats = {-1, 4, Integer.MAX_VALUE, Integer.MIN_VALUE};
        for (int what : noWhats) {
            date(GREGORIAN, 2451545, what, Due.ARGUMENT);
        }
    }

    /** Counts from day number 0 one day after the other, as the document does, and asks both ways. */
    private static void stepByStep(int calendar, int year, int month, int date) {
        int withinYear = sky().date(calendar, 0, 3);
        for (long number = 0; number < 2460000; number++) {
            if (number < 4000 || number > 1700000 && number < 1740000 || number > 2260000) {
                day(calendar, year, month, date, number);
                dates(calendar, number, year, month, date, withinYear);
            }
            boolean julian = calendar == JULIAN || calendar == MIXED && number < 2299160;
            date = calendar == MIXED && number == 2299160 ? 15 : date + 1;
            withinYear++;
            if (date > monthLength(julian, year, month)) {
                date = 1;
                month++;
            }
            if (month > 12) {
                month = 1;
                year++;
                withinYear = 1;
            }
        }
    }

    private static int monthLength(boolean julian, int year, int month) {
        if (month == 2) {
            return year % 4 == 0 && (julian || year % 100 != 0 || year % 400 == 0) ? 29 : 28;
        }
        return month == 4 || month == 6 || month == 9 || month == 11 ? 30 : 31;
    }

    private static void yearsRoundTrip() {
        for (int year = -1000000; year <= 1000000; year += year > -2000 && year < 4000 ? 1 : 37) {
            for (int calendar = 0; calendar <= 2; calendar++) {
                long first = sky().day(calendar, year, 1, 1);
                long last = sky().day(calendar, year, 12, 31);
                dates(calendar, first, year, 1, 1, 1);
                dates(calendar, last, year, 12, 31, (int) (last - first) + 1);
            }
        }
    }

    private static void easters() {
        for (int year = 1583; year <= 9999; year++) {
            int y = year;
            DUE.answer("easter(" + y + ")", easterAsButcherTellsIt(y), () -> sky().easter(y));
            DUE.answer("easter(" + y + ") on a Sunday", 6, () -> sky().easter(y) % 7);
        }
        int[] noYears = {1582, 10000, 0, -2000, Integer.MAX_VALUE, Integer.MIN_VALUE};
        for (int year : noYears) {
            DUE.refusal("easter(" + year + ")", Due.ARGUMENT, () -> sky().easter(year));
        }
        DUE.answer("easter(2000)", 2451658, () -> sky().easter(2000));
        DUE.answer("easter(1954)", 2434851, () -> sky().easter(1954));
        DUE.answer("easter(1818), the earliest date", sky().day(GREGORIAN, 1818, 3, 22), () -> sky().easter(1818));
        DUE.answer("easter(2038), the latest date", sky().day(GREGORIAN, 2038, 4, 25), () -> sky().easter(2038));
    }

    /** Another rule for the same day, so that a slip in the document's rule would show. */
    private static long easterAsButcherTellsIt(int year) {
        int a = year % 19;
        int b = year / 100;
        int c = year % 100;
        int h = (19 * a + b - b / 4 - (b - (b + 8) / 25 + 1) / 3 + 15) % 30;
        int l = (32 + 2 * (b % 4) + 2 * (c / 4) - h - c % 4) % 7;
        int n = h + l - 7 * ((a + 11 * h + 22 * l) / 451) + 114;
        return sky().day(GREGORIAN, year, n / 31, n % 31 + 1);
    }
}
