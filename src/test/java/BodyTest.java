/**
 * Promises 5 (orbit), 6 (term), 7 (observer), 8 (longitude), 9 (height), 11 (sidereal) and 15 (count).
 * The doubles that are due were worked out from the document by another program.
 */
public final class BodyTest {
    private static final Due DUE = new Due();
    private static final double NAN = Double.NaN;
    private static final double INFINITE = Double.POSITIVE_INFINITY;

    public static void main(String[] args) {
        orbits();
        terms();
        observers();
        reducedLongitudes();
        longitudesOfASun();
        longitudesWithTerms();
        failingAnomalies();
        heights();
        everyBitOfManyAnswers();
        siderealAngles();
        wrongTimesAndBodies();
        DUE.end();
    }

    private static void orbits() {
        SkyAlmanac x = new SkyAlmanac();
        DUE.answer("orbit of a new body", true, () -> x.orbit(0, 10, 1, 0, 0));
        DUE.answer("orbit of a set body", false, () -> x.orbit(0, 20, 1, 0, 0));
        DUE.answer("the later orbit counts", 20.0, () -> x.longitude(0, 0));
        DUE.answer("the largest orbit", true, () -> x.orbit(3, 360, 100, 0.75, 360));
        DUE.answer("the smallest orbit", false, () -> x.orbit(3, -360, -100, 0, -360));
        int[] noBodies = {-1, 4, Integer.MAX_VALUE, Integer.MIN_VALUE};
        for (int body : noBodies) {
            DUE.refusal("orbit of " + body, Due.INDEX, () -> x.orbit(body, 0, 0, 0, 0));
            DUE.refusal("wrong orbit of " + body, Due.INDEX, () -> x.orbit(body, 999, 0, 0, 0));
        }
        double[] tooFar = {360.0000001, -360.0000001, NAN, INFINITE, -INFINITE};
        for (double wrong : tooFar) {
            DUE.refusal("L " + wrong, Due.ARGUMENT, () -> x.orbit(1, wrong, 0, 0, 0));
            DUE.refusal("W " + wrong, Due.ARGUMENT, () -> x.orbit(1, 0, 0, 0, wrong));
            DUE.refusal("N " + wrong, Due.ARGUMENT, () -> x.orbit(1, 0, wrong, 0, 0));
            DUE.refusal("E " + wrong, Due.ARGUMENT, () -> x.orbit(1, 0, 0, wrong, 0));
        }
        DUE.refusal("N above", Due.ARGUMENT, () -> x.orbit(1, 0, 100.0000001, 0, 0));
        DUE.refusal("N below", Due.ARGUMENT, () -> x.orbit(1, 0, -100.0000001, 0, 0));
        DUE.refusal("E above", Due.ARGUMENT, () -> x.orbit(1, 0, 0, 0.7500001, 0));
        DUE.refusal("E below", Due.ARGUMENT, () -> x.orbit(1, 0, 0, -0.0000001, 0));
        DUE.refusal("a refused orbit sets nothing", Due.ELEMENT, () -> x.longitude(1, 0));
        DUE.refusal("a refused orbit on a set body", Due.ARGUMENT, () -> x.orbit(0, 30, 1, 0.8, 0));
        DUE.answer("leaves the orbit", 20.0, () -> x.longitude(0, 0));
    }

    private static void terms() {
        SkyAlmanac x = new SkyAlmanac();
        DUE.refusal("term of an unset body", Due.ELEMENT, () -> x.term(0, 0, 1, 1, 1));
        DUE.refusal("wrong term of an unset body", Due.ELEMENT, () -> x.term(0, 9, 1, 1, 1));
        DUE.refusal("term of no body", Due.ELEMENT, () -> x.term(4, 0, 1, 1, 1));
        DUE.refusal("term of body -1", Due.ELEMENT, () -> x.term(-1, 0, 1, 1, 1));
        x.orbit(0, 0, 0, 0, 0);
        x.orbit(1, 0, 0, 0, 0);
        wrongTerms(x);
        for (int i = 1; i <= 12; i++) {
            int n = i;
            DUE.answer("term " + n, n, () -> x.term(0, n % 3, n % 2 == 0 ? 10 : -10, 0, 0));
        }
        DUE.refusal("term 13", Due.STATE, () -> x.term(0, 0, 1, 1, 1));
        DUE.refusal("wrong term 13", Due.ARGUMENT, () -> x.term(0, 3, 1, 1, 1));
        DUE.answer("an orbit keeps its body's terms", false, () -> x.orbit(0, 5, 0, 0, 0));
        DUE.refusal("term 13 after a new orbit", Due.STATE, () -> x.term(0, 0, 1, 1, 1));
        DUE.answer("twelve terms", 5.0, () -> x.longitude(0, 0));
        DUE.answer("the other body has its own terms", 1, () -> x.term(1, 2, 10, 360, 100));
        DUE.answer("the smallest term", 2, () -> x.term(1, 0, -10, -360, -100));
    }

    private static void wrongTerms(SkyAlmanac x) {
        int[] noPowers = {-1, 3, Integer.MAX_VALUE, Integer.MIN_VALUE};
        for (int power : noPowers) {
            DUE.refusal("power " + power, Due.ARGUMENT, () -> x.term(0, power, 1, 1, 1));
        }
        double[] tooFar = {360.0000001, -360.0000001, NAN, INFINITE, -INFINITE};
        for (double wrong : tooFar) {
            DUE.refusal("A " + wrong, Due.ARGUMENT, () -> x.term(0, 0, wrong, 1, 1));
            DUE.refusal("B " + wrong, Due.ARGUMENT, () -> x.term(0, 0, 1, wrong, 1));
            DUE.refusal("C " + wrong, Due.ARGUMENT, () -> x.term(0, 0, 1, 1, wrong));
        }
        DUE.refusal("A above", Due.ARGUMENT, () -> x.term(0, 0, 10.0000001, 1, 1));
        DUE.refusal("A below", Due.ARGUMENT, () -> x.term(0, 0, -10.0000001, 1, 1));
        DUE.refusal("C above", Due.ARGUMENT, () -> x.term(0, 0, 1, 1, 100.0000001));
        DUE.refusal("C below", Due.ARGUMENT, () -> x.term(0, 0, 1, 1, -100.0000001));
    }

    private static void observers() {
        SkyAlmanac x = new SkyAlmanac();
        DUE.answer("observer where it was", false, () -> x.observer(0, 0));
        DUE.answer("observer at -0.0", false, () -> x.observer(-0.0, -0.0));
        DUE.answer("another latitude", true, () -> x.observer(90, 0));
        DUE.answer("another longitude", true, () -> x.observer(90, 180));
        DUE.answer("the same again", false, () -> x.observer(90, 180));
        DUE.answer("both others", true, () -> x.observer(-90, -180));
        double[][] wrong = {{90.0000001, 0}, {-90.0000001, 0}, {0, 180.0000001}, {0, -180.0000001},
            {NAN, 0}, {0, NAN}, {INFINITE, 0}, {0, -INFINITE}};
        for (double[] place : wrong) {
            String call = "observer(" + place[0] + ", " + place[1] + ")";
            DUE.refusal(call, Due.ARGUMENT, () -> x.observer(place[0], place[1]));
        }
        DUE.answer("refused places change nothing", false, () -> x.observer(-90, -180));
    }

    private static void reducedLongitudes() {
        double[][] rows = { // L, N, W, t, longitude
            {360, 0, 0, 0, 0}, {-360, 0, 360, 0, 0}, {-1e-15, 0, 0, 0, 0}, {-90, 0, 0, 0, 270},
            {-90, 100, 0, -1000000, 350}, {10, 1, 0, 365, 15}, {10, -1, 0, 365, 5}, {10, 0.5, 123, 1, 10.5},
        };
        for (double[] row : rows) {
            SkyAlmanac x = new SkyAlmanac();
            x.orbit(2, row[0], row[1], 0, row[2]);
            DUE.answer("longitude with L " + row[0] + ", N " + row[1], row[4], () -> x.longitude(2, row[3]));
        }
        SkyAlmanac x = new SkyAlmanac();
        x.orbit(0, 0, 0, 0, 0);
        x.term(0, 0, -1e-15, 0, 0);
        DUE.answer("a longitude that 360 more makes 360", 0.0, () -> x.longitude(0, 0));
    }

    private static SkyAlmanac withSun() {
        SkyAlmanac x = new SkyAlmanac();
        x.orbit(0, 280.46, 0.9856474, 0.016709, 282.94);
        return x;
    }

    private static SkyAlmanac withMoon() {
        SkyAlmanac x = new SkyAlmanac();
        x.orbit(1, 218.316, 13.176396, 0.0549, 83.353);
        x.term(1, 0, 6.289, 134.9, 13.064993);
        x.term(1, 0, 1.274, 100.7, 11.316);
        x.term(1, 1, -0.5, 10, 0.3);
        x.term(1, 2, 0.25, -20, -100);
        x.term(1, 1, 0.125, -360, 100);
        x.term(1, 0, -10, 360, 0);
        x.term(1, 2, -0.001, 5, 0.01);
        return x;
    }

    private static void longitudesOfASun() {
        SkyAlmanac x = withSun();
        double[][] rows = {{0, 280.3750394768233}, {100.25, 21.16841297161568}, {-3652.5, 280.29527054949494},
            {1000000, 246.73680101636376}, {-1000000, 314.04189078065417}};
        for (double[] row : rows) {
            DUE.answer("the sun at " + row[0], row[1], () -> x.longitude(0, row[0]));
        }
        DUE.answer("each is counted", 5, () -> x.count(false));
        DUE.answer("none failed", 0, () -> x.count(true));
    }

    private static void longitudesWithTerms() {
        SkyAlmanac moon = withMoon();
        double[][] rows = {{0, 207.83626193321408}, {27.5, 211.06621386644971}, {-1000, 351.9226162391286},
            {1000000, 54.772098307468696}};
        for (double[] row : rows) {
            DUE.answer("the moon at " + row[0], row[1], () -> moon.longitude(1, row[0]));
        }
        SkyAlmanac x = new SkyAlmanac();
        x.orbit(0, 0, 0, 0, 0);
        x.orbit(1, 0, 0, 0, 0);
        double[] factors = {0.1, 0.2, 0.3};
        for (int i = 0; i < 3; i++) {
            x.term(0, 0, factors[i], 0, 0);
            x.term(1, 0, factors[2 - i], 0, 0);
        }
        DUE.answer("terms as they came", 0.6000000000000001, () -> x.longitude(0, 0));
        DUE.answer("terms as they came, the other way", 0.6, () -> x.longitude(1, 0));
        x.orbit(2, 10, 0, 0, 0);
        x.term(2, 1, 2, 0, 0);
        x.term(2, 2, 3, 0, 0);
        x.term(2, 0, 5, 60, 0);
        DUE.answer("powers at 0", 12.5000000001014, () -> x.longitude(2, 0));
        DUE.answer("powers at 500", 14.2500000001014, () -> x.longitude(2, 500));
        DUE.answer("powers at -2000", 20.5000000001014, () -> x.longitude(2, -2000));
    }

    private static void failingAnomalies() {
        SkyAlmanac x = new SkyAlmanac();
        x.orbit(3, 116, 0, 0.75, 0);
        DUE.answer("the fourth step ends it", 152.97692997000487, () -> x.longitude(3, 0));
        x.orbit(3, 5, 0, 0.75, 0);
        DUE.answer("the fourth step ends it, too", 42.839202578489996, () -> x.longitude(3, 0));
        x.orbit(3, -244, 0, 0.75, -360);
        DUE.answer("M is reduced", 152.97692997000487, () -> x.longitude(3, 0));
        double[] failing = {6, 115, 245, 354};
        for (double l : failing) {
            x.orbit(3, l, 0, 0.75, 0);
            DUE.refusal("longitude with M " + l, Due.STATE, () -> x.longitude(3, 0));
            DUE.refusal("height with M " + l, Due.STATE, () -> x.height(3, 0));
        }
        DUE.answer("those that failed count, too", 11, () -> x.count(false));
        DUE.answer("those that failed", 8, () -> x.count(true));
    }

    private static void heights() {
        SkyAlmanac sun = withSun();
        double[][] atZero = {{0, 0.9201791437052572}, {100.25, 0.004968353383118185},
            {-3652.5, -0.9201390628263506}, {1000000, 0.9296160124527488}, {-1000000, 0.9565485598979879}};
        for (double[] row : atZero) {
            DUE.answer("height of the sun at " + row[0], row[1], () -> sun.height(0, row[0]));
        }
        sun.observer(52.5, 13.4);
        double[][] atBerlin = {{0, 0.2363696619565921}, {100.25, -0.0227137242957023},
            {-3652.5, -0.8572396204044563}, {1000000, 0.2538660121353463}, {-1000000, 0.34765996016804923}};
        for (double[] row : atBerlin) {
            DUE.answer("height of the sun in Berlin at " + row[0], row[1], () -> sun.height(0, row[0]));
        }
        DUE.answer("heights count as longitudes", 10, () -> sun.count(false));
        SkyAlmanac moon = withMoon();
        double[][] moons = {{0, 0.260744059832448}, {27.5, 0.14695053641287492}, {-1000, 0.9242133819053936},
            {1000000, -0.9117332954671596}};
        for (double[] row : moons) {
            DUE.answer("height of the moon at " + row[0], row[1], () -> moon.height(1, row[0]));
        }
        double[][] quarters = { // longitude, height at 0, 0, height at the pole
            {0, 0.18155965294674042, 0}, {45, -0.5095933275302716, 0.28127092431496054},
            {44.999, -0.509579954012701, 0.281266015910062}, {45.001, -0.5096067029135368, 0.28127583337585266},
            {90, -0.9022334486305575, 0.3977771559319137}, {135, -0.766357453086894, 0.281270925056792},
            {180, -0.18155965294674042, 0}, {225, 0.5095933275302716, -0.28127092431496054},
            {270, 0.9022334486305575, -0.3977771559319137}, {315, 0.766357453086894, -0.281270925056792},
            {359.9999, 0.18156122764089352, -6.942521058484547e-07},
        };
        for (double[] row : quarters) {
            SkyAlmanac x = new SkyAlmanac();
            x.orbit(0, row[0], 0, 0, 0);
            DUE.answer("height at longitude " + row[0], row[1], () -> x.height(0, 0));
            x.observer(90, 0);
            DUE.answer("height at the pole at longitude " + row[0], row[2], () -> x.height(0, 0));
        }
    }

    /** A wrong last digit of a factor shows only in the last bits of few answers, so many are folded. */
    private static void everyBitOfManyAnswers() {
        long sines = 0;
        long cosines = 0;
        long heights = 0;
        for (int i = 0; i < 4000; i++) {
            SkyAlmanac x = new SkyAlmanac();
            x.orbit(0, i * 0.09, 0, 0, 0);
            x.orbit(1, 100, 0, 0, 0);
            x.orbit(2, 10, i * 0.02, i % 100 * 0.004, -30);
            x.term(1, 0, 10, i * 0.09, 0);
            x.term(2, 0, 3, 5, i * 0.02);
            x.term(2, 1, 2.5, 7, 1.5);
            x.term(2, 2, -0.5, 9, 2.5);
            cosines = 31 * cosines + bits(x.longitude(1, 0));
            x.observer(90, 0);
            sines = 31 * sines + bits(x.height(0, 0));
            x.observer(i * 0.02, i * 0.04);
            heights = 31 * heights + bitsOfHeight(x, i * 0.7 - 1000);
        }
        long[] folded = {sines, cosines, heights};
        DUE.answer("sines", 677199683958946243L, () -> folded[0]);
        DUE.answer("cosines", -5134242506004662798L, () -> folded[1]);
        DUE.answer("heights", 275347873096952520L, () -> folded[2]);
    }

    private static long bitsOfHeight(SkyAlmanac x, double t) {
        try {
            return bits(x.height(2, t));
        } catch (IllegalStateException failed) {
            return 1;
        }
    }

    private static long bits(double answer) {
        return Double.doubleToLongBits(answer + 0.0); // the sum makes -0.0 and 0.0 the same
    }

    private static void siderealAngles() {
        SkyAlmanac x = new SkyAlmanac();
        double[][] rows = {{0, 280.46061837}, {12, 292.28838676548}, {0.5, 100.95344205314501},
            {-0.25, 190.2142065284275}, {1000000, 247.82690837001428}, {-1000000, 313.0943283699453},
            {1234.56789, 261.74960765471474}};
        for (double[] row : rows) {
            DUE.answer("sidereal(" + row[0] + ")", row[1], () -> x.sidereal(row[0]));
        }
        x.observer(10, 20);
        DUE.answer("sidereal for another observer", 280.46061837, () -> x.sidereal(0));
        DUE.answer("sidereal works out no longitude", 0, () -> x.count(false));
    }

    private static void wrongTimesAndBodies() {
        SkyAlmanac x = withSun();
        double[] noTimes = {1000000.0000001, -1000000.0000001, NAN, INFINITE, -INFINITE, Double.MAX_VALUE};
        for (double t : noTimes) {
            DUE.refusal("longitude at " + t, Due.ARGUMENT, () -> x.longitude(0, t));
            DUE.refusal("height at " + t, Due.ARGUMENT, () -> x.height(0, t));
            DUE.refusal("sidereal at " + t, Due.ARGUMENT, () -> x.sidereal(t));
            DUE.refusal("longitude of an unset body at " + t, Due.ELEMENT, () -> x.longitude(1, t));
            DUE.refusal("height of an unset body at " + t, Due.ELEMENT, () -> x.height(1, t));
        }
        int[] noBodies = {-1, 1, 4, Integer.MAX_VALUE, Integer.MIN_VALUE};
        for (int body : noBodies) {
            DUE.refusal("longitude of " + body, Due.ELEMENT, () -> x.longitude(body, 0));
            DUE.refusal("height of " + body, Due.ELEMENT, () -> x.height(body, 0));
        }
        DUE.answer("refused calls work out nothing", 0, () -> x.count(false));
        DUE.answer("refused calls fail nothing", 0, () -> x.count(true));
    }
}
