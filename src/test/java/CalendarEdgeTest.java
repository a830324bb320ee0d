import java.time.LocalDate;
import java.time.temporal.JulianFields;
import java.util.Calendar;
import java.util.Date;
import java.util.GregorianCalendar;
import java.util.TimeZone;

/**
 * The boundary cases of the calendars' sentences, a method for each: "Terms", promises 2, 3 and 4.
 * The days that are due are written out, or come from the calendars of the Java library.
 */
public final class CalendarEdgeTest {
    private static final Due DUE = new Due();
    private static final int JULIAN = 0;
    private static final int GREGORIAN = 1;
    private static final int MIXED = 2;
    private static final int[] LENGTHS = {31, 28, 31, 30, 31, 30, 31, 31, 30, 31, 30, 31};

    public static void main(String[] args) {
        yearsFromFirstToLast();
        yearZeroIsBeforeYearOne();
        monthsOneToTwelve();
        daysFromOneToTheMonthsLength();
        julianLeapYears();
        gregorianLeapYears();
        dayNumberZero();
        eachLaterDayHasOneMore();
        mixedUpToTheChange();
        mixedLeapYears();
        datesBetweenAreNone();
        beforeAndBehindTheRangeAreNone();
        mondays();
        noSuchCalendar();
        dayNumbersOutOfRange();
        yearOfADayOutOfRange();
        partsOfADate();
        dayWithinTheYear();
        dayWithinTheYearOfTheChange();
        libraryCalendarsAgree();
        eastersFirstAndLastYear();
        eastersRareCorrections();
        eastersBeforeAndBehind28March();
        refusedCallsChangeNothing();
        DUE.end();
    }

    private static void day(int calendar, int year, int month, int date, Object want) {
        String call = "day(" + calendar + ", " + year + ", " + month + ", " + date + ")";
        DUE.answer(call, want, () -> new SkyAlmanac().day(calendar, year, month, date));
    }

    private static void date(int calendar, long day, int what, Object want) {
        String call = "date(" + calendar + ", " + day + ", " + what + ")";
        DUE.answer(call, want, () -> new SkyAlmanac().date(calendar, day, what));
    }

    private static void dates(int calendar, long day, int year, int month, int date, int withinYear) {
        date(calendar, day, 0, year);
        date(calendar, day, 1, month);
        date(calendar, day, 2, date);
        date(calendar, day, 3, withinYear);
    }

    private static void noDate(int calendar, long day) {
        for (int what = 0; what <= 3; what++) {
            date(calendar, day, what, Due.ARGUMENT);
        }
    }

    /** "A date has a year (whole, -1000000 .. 1000000 ..)" */
    private static void yearsFromFirstToLast() {
        day(JULIAN, -1000000, 1, 1, -363528942);
        day(GREGORIAN, -1000000, 1, 1, -363521440);
        day(MIXED, -1000000, 1, 1, -363528942);
        day(JULIAN, 1000000, 12, 31, 366971423);
        day(GREGORIAN, 1000000, 12, 31, 366963925);
        day(MIXED, 1000000, 12, 31, 366963925);
        day(GREGORIAN, 1000000, 2, 29, 366963619);
        day(GREGORIAN, -1000000, 2, 29, -363521381);
        for (int calendar = JULIAN; calendar <= MIXED; calendar++) {
            day(calendar, -1000001, 12, 31, Due.ARGUMENT);
            day(calendar, 1000001, 1, 1, Due.ARGUMENT);
            day(calendar, Integer.MIN_VALUE, 6, 15, Due.ARGUMENT);
            day(calendar, Integer.MAX_VALUE, 6, 15, Due.ARGUMENT);
        }
    }

    /** "year 0 is before year 1" */
    private static void yearZeroIsBeforeYearOne() {
        day(JULIAN, 0, 12, 31, 1721423);
        day(JULIAN, 1, 1, 1, 1721424);
        day(GREGORIAN, 0, 12, 31, 1721425);
        day(GREGORIAN, 1, 1, 1, 1721426);
        day(MIXED, 0, 12, 31, 1721423);
        dates(JULIAN, 1721423, 0, 12, 31, 366);
        dates(GREGORIAN, 1721425, 0, 12, 31, 366);
        dates(JULIAN, 1721058, 0, 1, 1, 1);
        dates(JULIAN, 1721057, -1, 12, 31, 365);
        dates(GREGORIAN, 1721060, 0, 1, 1, 1);
        dates(GREGORIAN, 1721059, -1, 12, 31, 365);
    }

    /** "a month 1 .. 12" */
    private static void monthsOneToTwelve() {
        int[] none = {0, 13, -1, 256 + 1, 65536 + 1, Integer.MIN_VALUE, Integer.MAX_VALUE};
        for (int calendar = JULIAN; calendar <= MIXED; calendar++) {
            for (int month : none) {
                day(calendar, 2001, month, 1, Due.ARGUMENT);
                day(calendar, 1582, month, 1, Due.ARGUMENT);
                day(calendar, -2001, month, 1, Due.ARGUMENT);
            }
        }
        day(GREGORIAN, 2001, 1, 1, 2451911);
        day(GREGORIAN, 2001, 12, 1, 2452245);
    }

    /** "a day from 1 to the month's length: 31, 28, 31, 30, 31, 30, 31, 31, 30, 31, 30, 31" */
    private static void daysFromOneToTheMonthsLength() {
        int[] years = {2001, 1, -1, -2001, 1581, 1583, 999999, -999999};
        for (int calendar = JULIAN; calendar <= MIXED; calendar++) {
            for (int year : years) {
                long number = new SkyAlmanac().day(calendar, year, 1, 1);
                for (int month = 1; month <= 12; month++) {
                    int length = LENGTHS[month - 1];
                    day(calendar, year, month, 0, Due.ARGUMENT);
                    day(calendar, year, month, 1, number);
                    day(calendar, year, month, length, number + length - 1);
                    day(calendar, year, month, length + 1, Due.ARGUMENT);
                    number += length;
                }
                day(calendar, year, 3, -1, Due.ARGUMENT);
                day(calendar, year, 3, 100, Due.ARGUMENT);
                day(calendar, year, 3, Integer.MIN_VALUE, Due.ARGUMENT);
                day(calendar, year, 3, Integer.MAX_VALUE, Due.ARGUMENT);
            }
        }
    }

    private static void leap(int calendar, int year, boolean isLeap) {
        long lastOfFebruary = new SkyAlmanac().day(calendar, year, 3, 1) - 1;
        day(calendar, year, 2, 28, isLeap ? lastOfFebruary - 1 : lastOfFebruary);
        day(calendar, year, 2, 29, isLeap ? lastOfFebruary : Due.ARGUMENT);
        day(calendar, year, 2, 30, Due.ARGUMENT);
        date(calendar, lastOfFebruary, 2, isLeap ? 29 : 28);
        date(calendar, lastOfFebruary + 1, 3, isLeap ? 61 : 60);
    }

    /** "February has 29 in a LEAP year: in the JULIAN calendar (0) each that 4 divides" */
    private static void julianLeapYears() {
        int[] leaps = {4, 0, -4, 100, 400, 1500, 1582 + 2, 1900, 2000, -100, -4712, 1000000, -1000000};
        int[] others = {1, 2, 3, -1, -2, -3, 1582, 1901, -4713, 999999, -999999, 999998};
        for (int year : leaps) {
            leap(JULIAN, year, true);
        }
        for (int year : others) {
            leap(JULIAN, year, false);
        }
    }

    /** "in the GREGORIAN one (1) these, but those that 100 divides only if 400 does" */
    private static void gregorianLeapYears() {
        int[] leaps = {4, 0, -4, 96, 104, 400, 1600, 2000, 2400, -400, -2000, 1000000, -1000000, -996};
        int[] others = {1, -1, 100, 200, 300, 500, 1700, 1800, 1900, 2100, -100, -200, -300, -500, 999900, -999900};
        for (int year : leaps) {
            leap(GREGORIAN, year, true);
        }
        for (int year : others) {
            leap(GREGORIAN, year, false);
        }
    }

    /** "Day number 0 is 1 January of the year -4712 in the Julian calendar and 24 November -4713 in the .." */
    private static void dayNumberZero() {
        day(JULIAN, -4712, 1, 1, 0);
        day(GREGORIAN, -4713, 11, 24, 0);
        day(MIXED, -4712, 1, 1, 0);
        dates(JULIAN, 0, -4712, 1, 1, 1);
        dates(GREGORIAN, 0, -4713, 11, 24, 328);
        dates(MIXED, 0, -4712, 1, 1, 1);
    }

    /** "each later day has one more", and so each earlier one has one less. */
    private static void eachLaterDayHasOneMore() {
        day(JULIAN, -4712, 1, 2, 1);
        day(JULIAN, -4713, 12, 31, -1);
        day(GREGORIAN, -4713, 11, 25, 1);
        day(GREGORIAN, -4713, 11, 23, -1);
        dates(JULIAN, -1, -4713, 12, 31, 365);
        dates(GREGORIAN, -1, -4713, 11, 23, 327);
        dates(MIXED, -1, -4713, 12, 31, 365);
        dates(JULIAN, 1, -4712, 1, 2, 2);
    }

    /** "The MIXED calendar (2) is Julian up to day 2299160 (4 October 1582), and then Gregorian" */
    private static void mixedUpToTheChange() {
        day(MIXED, 1582, 10, 4, 2299160);
        day(MIXED, 1582, 10, 15, 2299161);
        dates(MIXED, 2299159, 1582, 10, 3, 276);
        dates(MIXED, 2299160, 1582, 10, 4, 277);
        dates(MIXED, 2299161, 1582, 10, 15, 278);
        dates(MIXED, 2299162, 1582, 10, 16, 279);
        day(MIXED, 1582, 1, 1, 2298884);
        day(JULIAN, 1582, 1, 1, 2298884);
        day(MIXED, 1582, 12, 31, 2299238);
        day(GREGORIAN, 1582, 12, 31, 2299238);
    }

    /** A year of the mixed calendar is a leap year by the calendar that it is in. */
    private static void mixedLeapYears() {
        leap(MIXED, 1500, true);
        leap(MIXED, 1400, true);
        leap(MIXED, 100, true);
        leap(MIXED, -100, true);
        leap(MIXED, 1580, true);
        leap(MIXED, 1582, false);
        leap(MIXED, 1584, true);
        leap(MIXED, 1600, true);
        leap(MIXED, 1700, false);
        leap(MIXED, 1900, false);
        leap(MIXED, 2000, true);
    }

    /** "the dates between .. are none", in the mixed calendar, but dates of the two others. */
    private static void datesBetweenAreNone() {
        for (int date = 5; date <= 14; date++) {
            day(MIXED, 1582, 10, date, Due.ARGUMENT);
            day(JULIAN, 1582, 10, date, 2299156 + date);
            day(GREGORIAN, 1582, 10, date, 2299146 + date);
            int kept = date;
            day(MIXED, 1582, 9, kept, 2299126 + kept);
            day(MIXED, 1582, 11, kept, 2299177 + kept);
            day(MIXED, 1581, 10, kept, 2298791 + kept);
            day(MIXED, 1583, 10, kept, 2299511 + kept);
        }
    }

    /** "what is before or behind the range, are none": beside the first and the last date of each calendar. */
    private static void beforeAndBehindTheRangeAreNone() {
        dates(JULIAN, -363528942, -1000000, 1, 1, 1);
        dates(MIXED, -363528942, -1000000, 1, 1, 1);
        dates(GREGORIAN, -363521440, -1000000, 1, 1, 1);
        dates(JULIAN, 366971423, 1000000, 12, 31, 366);
        dates(MIXED, 366963925, 1000000, 12, 31, 366);
        dates(GREGORIAN, 366963925, 1000000, 12, 31, 366);
        noDate(JULIAN, -363528943);
        noDate(MIXED, -363528943);
        noDate(GREGORIAN, -363521441);
        noDate(JULIAN, 366971424);
        noDate(MIXED, 366963926);
        noDate(GREGORIAN, 366963926);
    }

    /** "A day's number modulo 7 is 0 on Mondays." */
    private static void mondays() {
        DUE.answer("3 January 2000", 0, () -> new SkyAlmanac().day(GREGORIAN, 2000, 1, 3) % 7);
        DUE.answer("9 January 2000", 6, () -> new SkyAlmanac().day(GREGORIAN, 2000, 1, 9) % 7);
        DUE.answer("4 October 1582, a Thursday", 3, () -> new SkyAlmanac().day(MIXED, 1582, 10, 4) % 7);
        DUE.answer("15 October 1582, a Friday", 4, () -> new SkyAlmanac().day(MIXED, 1582, 10, 15) % 7);
    }

    /** "IllegalArgumentException, when there is no such calendar (0 .. 2)", of day and of date. */
    private static void noSuchCalendar() {
        int[] none = {-1, 3, 256, Integer.MIN_VALUE, Integer.MAX_VALUE};
        for (int calendar : none) {
            day(calendar, 2000, 1, 1, Due.ARGUMENT);
            noDate(calendar, 2451545);
        }
        for (int calendar = JULIAN; calendar <= MIXED; calendar++) {
            day(calendar, 2000, 1, 1, calendar == JULIAN ? 2451558 : 2451545);
        }
    }

    /** "DAY NUMBERS are whole, -400000000 .. 400000000": a long is not cut to an int first. */
    private static void dayNumbersOutOfRange() {
        long[] none = {400000001L, -400000001L, Integer.MAX_VALUE, Integer.MIN_VALUE, Long.MAX_VALUE, Long.MIN_VALUE,
            (1L << 32) + 2451545L, -(1L << 32) + 2451545L, Long.MAX_VALUE / 400 + 1, Long.MIN_VALUE / 400 - 1};
        for (int calendar = JULIAN; calendar <= MIXED; calendar++) {
            for (long day : none) {
                noDate(calendar, day);
            }
        }
    }

    /** "or the year is out of range": the outermost day numbers are in no year of the range. */
    private static void yearOfADayOutOfRange() {
        for (int calendar = JULIAN; calendar <= MIXED; calendar++) {
            noDate(calendar, 400000000);
            noDate(calendar, -400000000);
            noDate(calendar, 366971424);
            noDate(calendar, -363528943);
        }
    }

    /** "its year (what 0), month (1), day (2), or its day within the year .. (3 ..)", and no other what. */
    private static void partsOfADate() {
        dates(GREGORIAN, 2451604, 2000, 2, 29, 60);
        dates(GREGORIAN, 2451605, 2000, 3, 1, 61);
        int[] none = {-1, 4, 256, Integer.MIN_VALUE, Integer.MAX_VALUE};
        for (int what : none) {
            for (int calendar = JULIAN; calendar <= MIXED; calendar++) {
                date(calendar, 2451545, what, Due.ARGUMENT);
            }
        }
    }

    /** "its day within the year, from 1 on": 365 or 366 are the last. */
    private static void dayWithinTheYear() {
        dates(GREGORIAN, 2451545, 2000, 1, 1, 1);
        dates(GREGORIAN, 2451544, 1999, 12, 31, 365);
        dates(GREGORIAN, 2451910, 2000, 12, 31, 366);
        dates(GREGORIAN, 2451911, 2001, 1, 1, 1);
        dates(GREGORIAN, 2415385, 1900, 12, 31, 365);
        dates(JULIAN, 2415398, 1900, 12, 31, 366);
        dates(MIXED, 2415385, 1900, 12, 31, 365);
        dates(MIXED, 2269298, 1500, 12, 31, 366);
        dates(JULIAN, -363528942 + 365, -1000000, 12, 31, 366);
    }

    /** "in the mixed calendar's year 1582 counted as the days that there were" */
    private static void dayWithinTheYearOfTheChange() {
        date(MIXED, 2298884, 3, 1);
        date(MIXED, 2299160, 3, 277);
        date(MIXED, 2299161, 3, 278);
        date(MIXED, 2299238, 3, 355);
        date(MIXED, 2299239, 3, 1);
        date(MIXED, 2298883, 3, 365);
        date(GREGORIAN, 2299161, 3, 288);
        date(GREGORIAN, 2299238, 3, 365);
        date(JULIAN, 2299161, 3, 278);
        date(JULIAN, 2299248, 3, 365);
        for (long day = 2298884; day <= 2299238; day++) {
            date(MIXED, day, 3, day - 2298883);
        }
    }

    private static GregorianCalendar libraryCalendar(int calendar) {
        GregorianCalendar library = new GregorianCalendar(TimeZone.getTimeZone("UTC"));
        if (calendar == JULIAN) {
            library.setGregorianChange(new Date(Long.MAX_VALUE));
        }
        if (calendar == GREGORIAN) {
            library.setGregorianChange(new Date(Long.MIN_VALUE));
        }
        return library;
    }

    private static void libraryCalendarsAgree() {
        for (int calendar = JULIAN; calendar <= MIXED; calendar++) {
            GregorianCalendar library = libraryCalendar(calendar);
            for (long day = -363000000; day <= 366000000; day += day > 2200000 && day < 2500000 ? 29 : 99991) {
                library.setTimeInMillis((day - 2440588) * 86400000L);
                boolean common = library.get(Calendar.ERA) == GregorianCalendar.AD;
                int year = common ? library.get(Calendar.YEAR) : 1 - library.get(Calendar.YEAR);
                int month = library.get(Calendar.MONTH) + 1;
                int date = library.get(Calendar.DAY_OF_MONTH);
                dates(calendar, day, year, month, date, library.get(Calendar.DAY_OF_YEAR));
                day(calendar, year, month, date, day);
            }
        }
        for (int year = -1000000; year <= 1000000; year += 997) {
            day(GREGORIAN, year, 7, 4, LocalDate.of(year, 7, 4).getLong(JulianFields.JULIAN_DAY));
        }
    }

    private static void easter(int year, Object want) {
        DUE.answer("easter(" + year + ")", want, () -> new SkyAlmanac().easter(year));
    }

    private static long march(int year, int date) {
        return LocalDate.of(year, 3, 1).plusDays(date - 1).getLong(JulianFields.JULIAN_DAY);
    }

    /** "IllegalArgumentException, when year is not 1583 .. 9999" */
    private static void eastersFirstAndLastYear() {
        easter(1583, march(1583, 31 + 10));
        easter(9999, march(9999, 28));
        int[] none = {1582, 10000, 0, -1583, -9999, 1583 + 65536, Integer.MIN_VALUE, Integer.MAX_VALUE};
        for (int year : none) {
            easter(year, Due.ARGUMENT);
        }
    }

    /** h of 28 and of 29 are the ones that "FLOOR(h / 28)" and "FLOOR(29 / (h + 1))" are there for. */
    private static void eastersRareCorrections() {
        easter(1954, march(1954, 31 + 18)); // h = 28 and g above 10: i is 27
        easter(1886, march(1886, 31 + 25)); // h = 28 and g below 11: i stays 28
        easter(1943, march(1943, 31 + 25)); // h = 28 and g below 11: i stays 28
        easter(1981, march(1981, 31 + 19)); // h = 29: i is 28
        easter(1609, march(1609, 31 + 19)); // h = 29: i is 28
        easter(2049, march(2049, 31 + 18)); // h = 28 and g above 10: i is 27
        easter(2076, march(2076, 31 + 19)); // h = 29: i is 28
    }

    /** "n = i - j: it is n days behind 28 March": n may be below 0, 0, and above. */
    private static void eastersBeforeAndBehind28March() {
        easter(1818, march(1818, 22));
        easter(2285, march(2285, 22));
        easter(2027, march(2027, 28));
        easter(2032, march(2032, 28));
        easter(2016, march(2016, 27));
        easter(2024, march(2024, 31));
        easter(2018, march(2018, 31 + 1));
        easter(2038, march(2038, 31 + 25));
        easter(2000, march(2000, 31 + 23));
    }

    private static void refusedCallsChangeNothing() {
        SkyAlmanac x = new SkyAlmanac();
        x.write(1, 0);
        DUE.refusal("a refused day", Due.ARGUMENT, () -> x.day(3, 2000, 1, 1));
        DUE.refusal("a refused date", Due.ARGUMENT, () -> x.date(0, 400000001L, 0));
        DUE.refusal("a refused easter", Due.ARGUMENT, () -> x.easter(1));
        DUE.answer("letters stay", (int) '1', () -> x.letter(0));
        DUE.answer("no longitude", 0, () -> x.count(false));
        DUE.answer("a day as before", 2451545, () -> x.day(1, 2000, 1, 1));
    }
}
