/** The boundary cases of the sentences on written angles, a method for each: promises 1 and 12 to 14. */
public final class AngleEdgeTest {
    private static final Due DUE = new Due();
    private static final double[] NO_NUMBERS = {Double.NaN, Double.POSITIVE_INFINITY, Double.NEGATIVE_INFINITY,
        Double.MAX_VALUE, -Double.MAX_VALUE};

    public static void main(String[] args) {
        nothingWrittenAtFirst();
        minusBelowZero();
        noMinusWhenTheNumberIsZero();
        twoDigitsOfMinutesAndSeconds();
        pointAndPlaces();
        carries();
        halfAUnit();
        productsFromLeftToRight();
        anglesFromFirstToLast();
        placesZeroToFour();
        refusedWritingLeavesTheOldOne();
        lettersOfTheLastWriting();
        signs();
        degrees();
        minutes();
        seconds();
        sumOfAnAngle();
        DUE.end();
    }

    private static void writes(double angle, int places, String want) {
        SkyAlmanac x = new SkyAlmanac();
        String call = "write(" + angle + ", " + places + ")";
        DUE.answer(call, want.length(), () -> x.write(angle, places));
        written(x, call, want);
    }

    private static void written(SkyAlmanac x, String after, String want) {
        for (int i = 0; i < want.length(); i++) {
            int place = i;
            DUE.answer("letter " + place + " after " + after, (int) want.charAt(place), () -> x.letter(place));
        }
        DUE.refusal("letter behind the last after " + after, Due.INDEX, () -> x.letter(want.length()));
        DUE.refusal("letter before the first after " + after, Due.INDEX, () -> x.letter(-1));
    }

    /** "nothing written" */
    private static void nothingWrittenAtFirst() {
        written(new SkyAlmanac(), "nothing", "");
        SkyAlmanac x = new SkyAlmanac();
        DUE.refusal("a refused first writing", Due.ARGUMENT, () -> x.write(0, 5));
        written(x, "a refused writing", "");
    }

    /** "Writes an angle: - if it is below 0" */
    private static void minusBelowZero() {
        writes(1, 0, "1d00m00s");
        writes(-1, 0, "-1d00m00s");
        writes(-0.25, 0, "-0d15m00s");
        writes(0.25, 0, "0d15m00s");
        writes(-360, 0, "-360d00m00s");
    }

    /** "when that number is 0, there is no -" */
    private static void noMinusWhenTheNumberIsZero() {
        writes(0, 0, "0d00m00s");
        writes(-0.0, 0, "0d00m00s");
        writes(-0.0, 4, "0d00m00.0000s");
        writes(-Double.MIN_VALUE, 4, "0d00m00.0000s");
        writes(-0.0001, 0, "0d00m00s");
        writes(-0.0001, 1, "-0d00m00.4s");
        writes(-0.00013888888888888886, 0, "0d00m00s");
        writes(-0.0001388888888888889, 0, "-0d00m01s");
    }

    /** "degrees, d, two digits of minutes, m, two digits of seconds": with a 0 before, and as many degrees as it has. */
    private static void twoDigitsOfMinutesAndSeconds() {
        writes(0 + 1 / 60.0 + 1 / 3600.0, 0, "0d01m01s");
        writes(9 + 9 / 60.0 + 9 / 3600.0, 0, "9d09m09s");
        writes(10 + 10 / 60.0 + 10 / 3600.0, 0, "10d10m10s");
        writes(99 + 59 / 60.0 + 59 / 3600.0, 0, "99d59m59s");
        writes(100, 0, "100d00m00s");
        writes(9999, 0, "9999d00m00s");
        writes(10000, 0, "10000d00m00s");
        writes(99999, 0, "99999d00m00s");
    }

    /** "if places is above 0 a point and so many digits, s" */
    private static void pointAndPlaces() {
        writes(12.5, 0, "12d30m00s");
        writes(12.5, 1, "12d30m00.0s");
        writes(12.5, 2, "12d30m00.00s");
        writes(12.5, 3, "12d30m00.000s");
        writes(12.5, 4, "12d30m00.0000s");
        writes(0.0204 / 3600, 4, "0d00m00.0204s");
        writes(0.0204 / 3600, 3, "0d00m00.020s");
        writes(0.0204 / 3600, 2, "0d00m00.02s");
        writes(0.0204 / 3600, 1, "0d00m00.0s");
        writes(59.9999 / 3600, 4, "0d00m59.9999s");
    }

    /** A number that is rounded up goes on into seconds, minutes and degrees. */
    private static void carries() {
        writes(59.9999 / 3600, 3, "0d01m00.000s");
        writes(59.6 / 3600, 0, "0d01m00s");
        writes(3599.9999 / 3600, 3, "1d00m00.000s");
        writes(3599.9 / 3600, 0, "1d00m00s");
        writes(-(9 + 3599.96 / 3600), 1, "-10d00m00.0s");
        writes(99 + 3599.99996 / 3600, 4, "100d00m00.0000s");
        writes(359 + 3599.6 / 3600, 0, "360d00m00s");
        writes(99999 + 3599.9 / 3600, 0, "100000d00m00s");
    }

    /** "by adding 0.5 and taking WHOLE": doubles side by side, a half and what is below it. */
    private static void halfAUnit() {
        writes(0.0001388888888888889, 0, "0d00m01s");
        writes(0.00013888888888888886, 0, "0d00m00s");
        writes(1.3888888888888888e-05, 1, "0d00m00.1s"); // 0.49999999999999994 and 0.5 make 1 as doubles
        writes(1.3888888888888886e-05, 1, "0d00m00.0s");
        writes(-1.3888888888888887e-06, 2, "-0d00m00.01s");
        writes(-1.3888888888888885e-06, 2, "0d00m00.00s");
        writes(1.3888888888888888e-07, 3, "0d00m00.001s");
        writes(1.3888888888888885e-07, 3, "0d00m00.000s");
        writes(-1.3888888888888887e-08, 4, "-0d00m00.0001s");
        writes(-1.3888888888888885e-08, 4, "0d00m00.0000s");
    }

    /** "its amount times 3600 and the power of ten (products from left to right)": another order rounds otherwise. */
    private static void productsFromLeftToRight() {
        writes(6.136763888888888, 1, "6d08m12.4s");
        writes(-74.28579166666665, 1, "-74d17m08.9s");
        writes(125.56429166666665, 1, "125d33m51.5s");
        writes(91.98804166666666, 1, "91d59m16.9s");
        writes(2.5671540277777773, 3, "2d34m01.755s");
        writes(0.22533143055555555, 4, "0d13m31.1931s");
        writes(-0.21456645833333332, 4, "-0d12m52.4392s");
    }

    /** "IllegalArgumentException, when the angle is not -100000 .. 100000" */
    private static void anglesFromFirstToLast() {
        for (int places = 0; places <= 4; places++) {
            String end = places == 0 ? "d00m00s" : "d00m00." + "0000".substring(0, places) + "s";
            writes(100000, places, "100000" + end);
            writes(-100000, places, "-100000" + end);
            int p = places;
            SkyAlmanac x = new SkyAlmanac();
            DUE.refusal("above", Due.ARGUMENT, () -> x.write(Math.nextUp(100000.0), p));
            DUE.refusal("below", Due.ARGUMENT, () -> x.write(Math.nextDown(-100000.0), p));
            for (double none : NO_NUMBERS) {
                DUE.refusal("write(" + none + ", " + p + ")", Due.ARGUMENT, () -> x.write(none, p));
            }
        }
        writes(Math.nextDown(100000.0), 0, "100000d00m00s");
    }

    /** "or places not 0 .. 4" */
    private static void placesZeroToFour() {
        int[] none = {-1, 5, 256, Integer.MIN_VALUE, Integer.MAX_VALUE};
        SkyAlmanac x = new SkyAlmanac();
        for (int places : none) {
            DUE.refusal("places " + places, Due.ARGUMENT, () -> x.write(1, places));
        }
        DUE.answer("places 0", 8, () -> x.write(1, 0));
        DUE.answer("places 1", 10, () -> x.write(1, 1));
        DUE.answer("places 4", 13, () -> x.write(1, 4));
    }

    /** "then what was written before stays" */
    private static void refusedWritingLeavesTheOldOne() {
        SkyAlmanac x = new SkyAlmanac();
        x.write(-12.5, 2);
        DUE.refusal("a wrong angle", Due.ARGUMENT, () -> x.write(100001, 0));
        written(x, "a wrong angle", "-12d30m00.00s");
        DUE.refusal("wrong places", Due.ARGUMENT, () -> x.write(1, 5));
        written(x, "wrong places", "-12d30m00.00s");
        DUE.refusal("no number", Due.ARGUMENT, () -> x.write(Double.NaN, -1));
        written(x, "no number", "-12d30m00.00s");
        DUE.refusal("a wrong angle of the other call", Due.ARGUMENT, () -> x.angle(1, 361, 0, 0));
        written(x, "a refused angle", "-12d30m00.00s");
    }

    /** "Character i of what was written last. IndexOutOfBoundsException, when there is none." */
    private static void lettersOfTheLastWriting() {
        SkyAlmanac x = new SkyAlmanac();
        x.write(-100000, 4);
        written(x, "the longest", "-100000d00m00.0000s");
        x.write(0, 0);
        written(x, "the shortest", "0d00m00s");
        int[] none = {8, 9, 18, 19, 20, 24, 256, -1, -8, Integer.MIN_VALUE, Integer.MAX_VALUE};
        for (int i : none) {
            DUE.refusal("letter(" + i + ")", Due.INDEX, () -> x.letter(i));
        }
        written(x, "refused letters", "0d00m00s");
        written(new SkyAlmanac(), "another object's writing", "");
    }

    private static void angle(int sign, int d, int m, double s, Object want) {
        String call = "angle(" + sign + ", " + d + ", " + m + ", " + s + ")";
        DUE.answer(call, want, () -> new SkyAlmanac().angle(sign, d, m, s));
    }

    /** "IllegalArgumentException, when sign is not 1 or -1" */
    private static void signs() {
        angle(1, 1, 0, 0, 1.0);
        angle(-1, 1, 0, 0, -1.0);
        int[] none = {0, 2, -2, 257, Integer.MIN_VALUE, Integer.MAX_VALUE};
        for (int sign : none) {
            angle(sign, 1, 0, 0, Due.ARGUMENT);
        }
    }

    /** "d not 0 .. 360", whatever minutes and seconds are. */
    private static void degrees() {
        angle(1, 0, 0, 0, 0.0);
        angle(-1, 0, 0, 0, 0.0);
        angle(1, 360, 0, 0, 360.0);
        angle(-1, 360, 30, 0, -360.5);
        int[] none = {-1, 361, 256 + 361, Integer.MIN_VALUE, Integer.MAX_VALUE};
        for (int d : none) {
            angle(1, d, 0, 0, Due.ARGUMENT);
        }
    }

    /** "m not 0 .. 59" */
    private static void minutes() {
        angle(1, 1, 0, 0, 1.0);
        angle(1, 1, 59, 0, 1.9833333333333334);
        int[] none = {-1, 60, 256, Integer.MIN_VALUE, Integer.MAX_VALUE};
        for (int m : none) {
            angle(1, 1, m, 0, Due.ARGUMENT);
        }
    }

    /** "s not at least 0 and below 60" */
    private static void seconds() {
        angle(1, 1, 0, 0, 1.0);
        angle(1, 1, 0, -0.0, 1.0);
        angle(1, 1, 0, Double.MIN_VALUE, 1.0);
        angle(1, 0, 0, Math.nextDown(60.0), Math.nextDown(60.0) / 3600);
        angle(1, 1, 0, 60, Due.ARGUMENT);
        angle(1, 1, 0, -Double.MIN_VALUE, Due.ARGUMENT);
        for (double none : NO_NUMBERS) {
            angle(1, 1, 0, none, Due.ARGUMENT);
        }
    }

    /** "sign * (d + m / 60 + s / 3600)", worked out from left to right and with minutes in parts of a degree. */
    private static void sumOfAnAngle() {
        angle(1, 0, 1, 0, 0.016666666666666666);
        angle(1, 0, 0, 1, 1.0 / 3600);
        angle(-1, 360, 59, 59.999, -360.99999972222224);
        angle(1, 10, 30, 36.5, 10.51013888888889);
        angle(1, 0, 59, 0.25, 0.9834027777777777);
    }
}
