/** Promises 12 (write), 13 (letter) and 14 (angle). */
public final class AngleTest {
    private static final Due DUE = new Due();

    public static void main(String[] args) {
        writtenAngles();
        wrongWritings();
        letters();
        angles();
        wrongAngles();
        DUE.end();
    }

    private static void writes(double angle, int places, String want) {
        SkyAlmanac x = new SkyAlmanac();
        String call = "write(" + angle + ", " + places + ")";
        DUE.answer(call, want.length(), () -> x.write(angle, places));
        DUE.answer("letters of " + call, want, () -> text(x));
    }

    private static String text(SkyAlmanac x) {
        StringBuilder text = new StringBuilder();
        try {
            for (int i = 0; i < 100; i++) {
                text.append((char) x.letter(i));
            }
        } catch (IndexOutOfBoundsException end) {
            return text.toString();
        }
        return "no end";
    }

    private static void writtenAngles() {
        writes(0, 0, "0d00m00s");
        writes(-0.0, 0, "0d00m00s");
        writes(0, 2, "0d00m00.00s");
        writes(100, 0, "100d00m00s");
        writes(-1, 4, "-1d00m00.0000s");
        writes(-5.5, 1, "-5d30m00.0s");
        writes(12.582438888, 2, "12d34m56.78s");
        writes(7.0511111, 4, "7d03m04.0000s");
        writes(479, 3, "479d00m00.000s");
        writes(99999.25, 1, "99999d15m00.0s");
        writes(100000, 4, "100000d00m00.0000s");
        writes(-100000, 4, "-100000d00m00.0000s");
        writes(359.99999999, 0, "360d00m00s");
        writes(0.9999983333333333, 0, "1d00m00s");
        writes(0.9999983333333333, 1, "1d00m00.0s");
        writes(0.9999983333333333, 2, "0d59m59.99s");
        writes(0.99999999, 3, "1d00m00.000s");
        writes(-0.0001, 0, "0d00m00s");
        writes(-0.0001, 1, "-0d00m00.4s");
        writes(-0.0002, 0, "-0d00m01s");
        writes(-0.00000001, 4, "0d00m00.0000s");
        writes(0.000000014, 4, "0d00m00.0001s");
        writes(0.5 / 3600, 0, "0d00m01s");
    }

    private static void wrongWritings() {
        SkyAlmanac x = new SkyAlmanac();
        DUE.refusal("a wrong first writing", Due.ARGUMENT, () -> x.write(Double.NaN, 0));
        DUE.refusal("has no letters", Due.INDEX, () -> x.letter(0));
        x.write(-12.5, 2);
        double[] noAngles = {100000.0001, -100000.0001, Double.NaN, Double.POSITIVE_INFINITY,
            Double.NEGATIVE_INFINITY, Double.MAX_VALUE};
        int[] noPlaces = {-1, 5, Integer.MAX_VALUE, Integer.MIN_VALUE};
        for (double angle : noAngles) {
            DUE.refusal("write(" + angle + ", 0)", Due.ARGUMENT, () -> x.write(angle, 0));
        }
        for (int places : noPlaces) {
            DUE.refusal("write(1, " + places + ")", Due.ARGUMENT, () -> x.write(1, places));
        }
        DUE.answer("what was written stays", "-12d30m00.00s", () -> text(x));
    }

    private static void letters() {
        SkyAlmanac x = new SkyAlmanac();
        x.write(-123.5, 3);
        x.write(9, 0);
        DUE.answer("the last writing counts", "9d00m00s", () -> text(x));
        DUE.answer("letter(0)", (int) '9', () -> x.letter(0));
        DUE.answer("letter(1)", (int) 'd', () -> x.letter(1));
        DUE.answer("letter(7)", (int) 's', () -> x.letter(7));
        int[] none = {8, 9, -1, Integer.MAX_VALUE, Integer.MIN_VALUE};
        for (int i : none) {
            DUE.refusal("letter(" + i + ")", Due.INDEX, () -> x.letter(i));
        }
    }

    private static void angles() {
        SkyAlmanac x = new SkyAlmanac();
        DUE.answer("angle(1, 10, 30, 36.5)", 10.51013888888889, () -> x.angle(1, 10, 30, 36.5));
        DUE.answer("angle(-1, 360, 59, 59.999)", -360.99999972222224, () -> x.angle(-1, 360, 59, 59.999));
        DUE.answer("angle(1, 0, 59, 0.25)", 0.9834027777777777, () -> x.angle(1, 0, 59, 0.25));
        DUE.answer("angle(-1, 0, 30, 0)", -0.5, () -> x.angle(-1, 0, 30, 0));
        DUE.answer("angle(-1, 0, 0, 0)", 0.0, () -> x.angle(-1, 0, 0, 0));
        DUE.answer("angle(1, 360, 0, -0.0)", 360.0, () -> x.angle(1, 360, 0, -0.0));
    }

    private static void wrongAngles() {
        SkyAlmanac x = new SkyAlmanac();
        int[] noSigns = {0, 2, -2, Integer.MAX_VALUE, Integer.MIN_VALUE};
        int[] noDegrees = {-1, 361, Integer.MAX_VALUE, Integer.MIN_VALUE};
        int[] noMinutes = {-1, 60, Integer.MAX_VALUE, Integer.MIN_VALUE};
        double[] noSeconds = {60, -0.0000001, Double.NaN, Double.POSITIVE_INFINITY, Double.NEGATIVE_INFINITY};
        for (int sign : noSigns) {
            DUE.refusal("sign " + sign, Due.ARGUMENT, () -> x.angle(sign, 1, 1, 1));
        }
        for (int d : noDegrees) {
            DUE.refusal("degrees " + d, Due.ARGUMENT, () -> x.angle(1, d, 1, 1));
        }
        for (int m : noMinutes) {
            DUE.refusal("minutes " + m, Due.ARGUMENT, () -> x.angle(1, 1, m, 1));
        }
        for (double s : noSeconds) {
            DUE.refusal("seconds " + s, Due.ARGUMENT, () -> x.angle(1, 1, 1, s));
        }
    }
}
