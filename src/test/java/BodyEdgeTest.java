/**
 * The boundary cases of the sentences on angles, bodies, observer and times, a method for each: "Terms",
 * promises 1, 5 to 9, 11 and 15. The doubles that are due were worked out from the document by another program.
 */
public final class BodyEdgeTest {
    private static final Due DUE = new Due();
    private static final double[] NO_NUMBERS = {Double.NaN, Double.POSITIVE_INFINITY, Double.NEGATIVE_INFINITY,
        Double.MAX_VALUE, -Double.MAX_VALUE};
    private static final int[] NO_BODIES = {-1, 4, 256, Integer.MIN_VALUE, Integer.MAX_VALUE};

    public static void main(String[] args) {
        reducedBelowZeroAndAt360();
        quarterTurns();
        factorsOfTheWaves();
        wholePartOfATime();
        timesFromFirstToLast();
        anomalyEndsAtTheFourthStep();
        anomalyEndsStrictlyWithin();
        anomalyAtTheApsides();
        noBodiesAtFirst();
        observerAtZeroAtFirst();
        bodiesZeroToThree();
        orbitLimits();
        orbitTellsWhetherItWasNotSet();
        orbitKeepsTerms();
        refusedOrbitChangesNothing();
        termNeedsABodyThatIsSet();
        termLimits();
        atMostTwelveTerms();
        refusedTermAddsNothing();
        termsOfLargestSize();
        observerLimits();
        observerTellsChanges();
        refusedObserverChangesNothing();
        observerAtTheEdges();
        longitudeAndHeightThrowInThisOrder();
        failedLongitudes();
        countOfLongitudes();
        DUE.end();
    }

    private static double above(double x) {
        return Math.nextUp(x);
    }

    private static double below(double x) {
        return Math.nextDown(x);
    }

    private static SkyAlmanac with(double l, double n, double e, double w) {
        SkyAlmanac x = new SkyAlmanac();
        x.orbit(0, l, n, e, w);
        return x;
    }

    private static void longitude(double l, double e, Object want) {
        DUE.answer("longitude with L " + l + ", E " + e, want, () -> with(l, 0, e, 0).longitude(0, 0));
    }

    /** "RED(x) ..: x - 360 * WHOLE(x / 360), and 360 more if that is below 0; if it is 360 then, 0" */
    private static void reducedBelowZeroAndAt360() {
        longitude(0, 0, 0.0);
        longitude(-0.0, 0, 0.0);
        longitude(360, 0, 0.0);
        longitude(-360, 0, 0.0);
        longitude(below(360), 0, 359.99999999999994);
        longitude(above(-360), 0, 5.684341886080802e-14);
        longitude(-1, 0, 359.0);
        longitude(-2.9e-14, 0, 359.99999999999994);
        longitude(-2.8e-14, 0, 0.0);
        longitude(-Double.MIN_VALUE, 0, 0.0);
        longitude(Double.MIN_VALUE, 0, Double.MIN_VALUE);
        DUE.answer("L 360 and W -360", 0.0, () -> with(360, 0, 0, -360).longitude(0, 0));
        DUE.answer("L -360 and W 360", 0.0, () -> with(-360, 0, 0, 360).longitude(0, 0));
        DUE.answer("many turns on", 280.0, () -> with(0, 100, 0, 0).longitude(0, 1000000));
        DUE.answer("many turns back", 80.0, () -> with(0, 100, 0, 0).longitude(0, -1000000));
    }

    /** "k = WHOLE(x / 90 + 0.5)", "With k modulo 4: SINE is u, v, -u, -v, COSINE v, -u, -v, u." */
    private static void quarterTurns() {
        double[][] rows = { // angle, height at the pole (a sine), longitude by a cosine
            {0, 0, 20}, {90, 0.3977771559319137, 10}, {180, 0, 0}, {270, -0.3977771559319137, 10}, {360, 0, 20},
            {below(45), 0.28127092431496054, 17.071067829368673}, {45, 0.28127092431496054, 17.07106782936867},
            {above(45), 0.28127092431496065, 17.07106782936867},
            {below(135), 0.2812709243149607, 2.928932170631332}, {135, 0.281270925056792, 2.9289321892807525},
            {above(135), 0.2812709250567919, 2.92893218928075},
            {below(225), -0.2812709250567919, 2.92893218928075}, {225, -0.28127092431496054, 2.92893217063133},
            {above(225), -0.2812709243149607, 2.928932170631332},
            {below(315), -0.28127092431496087, 17.071067829368666}, {315, -0.281270925056792, 17.07106781071925},
            {above(315), -0.2812709250567918, 17.071067810719256},
        };
        for (double[] row : rows) {
            SkyAlmanac x = with(row[0], 0, 0, 0);
            x.observer(90, 0);
            DUE.answer("sine of " + row[0], row[1], () -> x.height(0, 0));
            SkyAlmanac y = with(0, 0, 0, 0);
            y.term(0, 0, 10, row[0], 0);
            y.term(0, 0, 10, 0, 0);
            DUE.answer("cosine of " + row[0], row[2], () -> y.longitude(0, 0));
        }
    }

    /** Each row shows a factor of u or v that is the next double above or below the document's. */
    private static void factorsOfTheWaves() {
        double[][] rows = { // angle, height at the pole (a sine), longitude by a cosine
            {49.87418850520388, 0.3041528035630857, 6.444681585866356},
            {44.96946406002024, 0.28112098101626276, 7.074835350953734},
            {53.91324017081223, 0.32145406847982555, 5.890096277797623},
            {31.649488679770684, 0.20872217875892873, 8.512740286849356},
            {30.232216541385927, 0.20028311928962828, 8.639918249110632},
            {43.31155029436586, 0.2728612275867683, 7.276344882190873},
            {48.905020026062665, 0.2997732124414645, 6.573092197186412},
            {43.410303918285955, 0.27335968761552437, 7.2645109518516895},
            {44.70207972707105, 0.2798046077574507, 7.107739414182312},
            {49.62667505722048, 0.30304253597440073, 6.477652838216218},
            {42.99029191325454, 0.27123407233013413, 7.31469247545215},
        };
        for (double[] row : rows) {
            SkyAlmanac x = with(row[0], 0, 0, 0);
            x.observer(90, 0);
            DUE.answer("sine of " + row[0], row[1], () -> x.height(0, 0));
            SkyAlmanac y = with(0, 0, 0, 0);
            y.term(0, 0, 10, row[0], 0);
            DUE.answer("cosine of " + row[0], row[2], () -> y.longitude(0, 0));
        }
    }

    /** "WHOLE(x) is x without what is behind the point", below 0, too: the sidereal angle shows it. */
    private static void wholePartOfATime() {
        double[][] rows = {{0, 280.46061837}, {-0.0, 280.46061837}, {-Double.MIN_VALUE, 280.46061837},
            {0.5, 100.95344205314501}, {-0.5, 99.96779468685503}, {-1.5, 98.98214732056505},
            {below(1), 281.4462657362899}, {below(1000000), 247.82690832798835},
            {above(-1000000), 313.0943284119712}, {80.68, 244.78264788227966}, {80.7, 252.00236082960407}};
        for (double[] row : rows) {
            DUE.answer("sidereal(" + row[0] + ")", row[1], () -> new SkyAlmanac().sidereal(row[0]));
        }
    }

    /** "TIMES are in days from the epoch .., -1000000 .. 1000000": for longitude, height and sidereal. */
    private static void timesFromFirstToLast() {
        SkyAlmanac x = with(7, 0, 0, 0);
        DUE.answer("longitude at the last time", 7.0, () -> x.longitude(0, 1000000));
        DUE.answer("longitude at the first time", 7.0, () -> x.longitude(0, -1000000));
        DUE.answer("sidereal at the last time", 247.82690837001428, () -> x.sidereal(1000000));
        DUE.answer("sidereal at the first time", 313.0943283699453, () -> x.sidereal(-1000000));
        x.observer(90, 0);
        DUE.answer("height at the last time", x.height(0, 0), () -> x.height(0, 1000000));
        DUE.answer("height at the first time", x.height(0, 0), () -> x.height(0, -1000000));
        int before = x.count(false);
        for (double t : new double[] {above(1000000), below(-1000000), 1000001, -1000001, 8000001}) {
            noTime(x, t);
        }
        for (double t : NO_NUMBERS) {
            noTime(x, t);
        }
        DUE.answer("what is no time works out nothing", before, () -> x.count(false));
    }

    private static void noTime(SkyAlmanac x, double t) {
        DUE.refusal("longitude at " + t, Due.ARGUMENT, () -> x.longitude(0, t));
        DUE.refusal("height at " + t, Due.ARGUMENT, () -> x.height(0, t));
        DUE.refusal("sidereal at " + t, Due.ARGUMENT, () -> x.sidereal(t));
    }

    /** "up to 4 times: ..; if it has not ended by itself, it FAILS": doubles side by side, one of which fails. */
    private static void anomalyEndsAtTheFourthStep() {
        longitude(5.689642170502353, 0.75, 47.811534362907594);
        longitude(5.689642170502354, 0.75, Due.STATE);
        longitude(115.29245644831103, 0.75, Due.STATE);
        longitude(115.29245644831104, 0.75, 152.73429315433157);
        longitude(244.70754358172397, 0.75, 207.26570685593376);
        longitude(244.707543581724, 0.75, Due.STATE);
        longitude(354.3103578836036, 0.75, Due.STATE);
        longitude(354.3103578836037, 0.75, 312.18846601661335);
        longitude(24.94843597160552, 0.5, 72.84808026242739);
        longitude(24.948435971605523, 0.5, Due.STATE);
        longitude(95.11966115827694, 0.5, Due.STATE);
        longitude(95.11966115827695, 0.5, 138.57207491994203);
        longitude(335.05156416500915, 0.5, Due.STATE);
        longitude(335.0515641650092, 0.5, 287.1519200217572);
    }

    /** "when d is above -0.000001 and below it, this ends": d is exactly one of these two here. */
    private static void anomalyEndsStrictlyWithin() {
        longitude(20.13235697820346, 0.5372276889099514, Due.STATE);
        longitude(23.28728991569369, 0.5117352319756691, Due.STATE);
        longitude(326.4744225628674, 0.4536112902127269, Due.STATE);
        longitude(below(326.4744225628674), 0.4536112902127269, 278.4687401266434);
        longitude(above(326.4744225628674), 0.4536112902127269, 278.4687401266435);
        longitude(6.857242350615205e-07, 0.5932168377252434, 3.278941072786763e-06);
        longitude(1.7742028332726016e-06, 0.3604639098505805, 4.13466674312318e-06);
    }

    /** At M = 0 and 180 the anomaly is M for every E, and for E = 0 it is M everywhere: the first step ends it. */
    private static void anomalyAtTheApsides() {
        longitude(0, 0.75, 0.0);
        longitude(180, 0.75, 180.0);
        longitude(360, 0.75, 0.0);
        longitude(-180, 0.75, 180.0);
        longitude(90, 0, 90.0);
        longitude(90, -0.0, 90.0);
        longitude(1e-07, 0.75, 9.25e-07);
        for (double w : new double[] {0, 360, -360}) {
            DUE.answer("W " + w, 129.27035100493953, () -> with(100, 1, 0.2, w).longitude(0, 10.5));
        }
        DUE.answer("W 123.456", 103.51629639547309, () -> with(100, 1, 0.2, 123.456).longitude(0, 10.5));
    }

    /** "A new object: No bodies" */
    private static void noBodiesAtFirst() {
        SkyAlmanac x = new SkyAlmanac();
        for (int body = 0; body <= 3; body++) {
            int b = body;
            DUE.refusal("longitude of new body " + b, Due.ELEMENT, () -> x.longitude(b, 0));
            DUE.refusal("height of new body " + b, Due.ELEMENT, () -> x.height(b, 0));
            DUE.refusal("term of new body " + b, Due.ELEMENT, () -> x.term(b, 0, 1, 1, 1));
            for (int kind = 0; kind <= 2; kind++) {
                int k = kind;
                DUE.refusal("event " + k + " of new body " + b, Due.ELEMENT, () -> x.event(b, k, 0));
            }
        }
        DUE.answer("no longitude yet", 0, () -> x.count(false));
        DUE.answer("none failed yet", 0, () -> x.count(true));
    }

    /** "the observer at 0, 0" */
    private static void observerAtZeroAtFirst() {
        SkyAlmanac x = with(90, 0, 0, 0);
        DUE.answer("height for a new observer", -0.9022334486305575, () -> x.height(0, 0));
        DUE.answer("observer(0, 0)", false, () -> x.observer(0, 0));
        DUE.answer("the same height", -0.9022334486305575, () -> x.height(0, 0));
    }

    /** "BODIES 0 .. 3", each with an orbit of its own; "IndexOutOfBoundsException, when there is no such body" */
    private static void bodiesZeroToThree() {
        SkyAlmanac x = new SkyAlmanac();
        for (int body : NO_BODIES) {
            DUE.refusal("orbit of " + body, Due.INDEX, () -> x.orbit(body, 0, 0, 0, 0));
            DUE.refusal("wrong orbit of " + body, Due.INDEX, () -> x.orbit(body, 0, 0, 1, 0));
        }
        for (int body = 3; body >= 0; body--) {
            int b = body;
            DUE.answer("orbit of " + b, true, () -> x.orbit(b, 10 + b, 0, 0, 0));
        }
        for (int body = 0; body <= 3; body++) {
            int b = body;
            DUE.answer("longitude of " + b, 10.0 + b, () -> x.longitude(b, 0));
        }
    }

    /** "IllegalArgumentException, when L or W is not -360 .. 360, N not -100 .. 100, E not 0 .. 0.75" */
    private static void orbitLimits() {
        SkyAlmanac x = with(0, 0, 0, 0);
        double[] turns = {360, -360};
        double[] speeds = {100, -100};
        double[] shapes = {0, -0.0, 0.75, Double.MIN_VALUE};
        for (double in : turns) {
            double out = in > 0 ? above(in) : below(in);
            DUE.answer("L " + in, false, () -> x.orbit(0, in, 0, 0, 0));
            DUE.answer("W " + in, false, () -> x.orbit(0, 0, 0, 0, in));
            DUE.refusal("L " + out, Due.ARGUMENT, () -> x.orbit(0, out, 0, 0, 0));
            DUE.refusal("W " + out, Due.ARGUMENT, () -> x.orbit(0, 0, 0, 0, out));
        }
        for (double in : speeds) {
            double out = in > 0 ? above(in) : below(in);
            DUE.answer("N " + in, false, () -> x.orbit(0, 0, in, 0, 0));
            DUE.refusal("N " + out, Due.ARGUMENT, () -> x.orbit(0, 0, out, 0, 0));
        }
        for (double in : shapes) {
            DUE.answer("E " + in, false, () -> x.orbit(0, 0, 0, in, 0));
        }
        DUE.refusal("E above 0.75", Due.ARGUMENT, () -> x.orbit(0, 0, 0, above(0.75), 0));
        DUE.refusal("E below 0", Due.ARGUMENT, () -> x.orbit(0, 0, 0, -Double.MIN_VALUE, 0));
        for (double none : NO_NUMBERS) {
            DUE.refusal("L " + none, Due.ARGUMENT, () -> x.orbit(0, none, 0, 0, 0));
            DUE.refusal("N " + none, Due.ARGUMENT, () -> x.orbit(0, 0, none, 0, 0));
            DUE.refusal("E " + none, Due.ARGUMENT, () -> x.orbit(0, 0, 0, none, 0));
            DUE.refusal("W " + none, Due.ARGUMENT, () -> x.orbit(0, 0, 0, 0, none));
        }
        double[][] rows = { // L, N, E, W, t, longitude
            {-360, -100, 0, -360, 1, 260}, {-360, -100, 0, -360, 1000000, 80}, {360, 100, 0.75, 360, 0, 0},
            {360, 100, 0.3, -360, 1, 129.02088465639378}, {360, 100, 0.3, -360, -1000000, 113.48807651339206},
            {-360, -100, 0.3, 360, 1, 230.97911534360628}, {-360, -100, 0.3, 360, -1000000, 246.51192348660788},
        };
        for (double[] row : rows) {
            String call = "longitude by " + java.util.Arrays.toString(row);
            DUE.answer(call, row[5], () -> with(row[0], row[1], row[2], row[3]).longitude(0, row[4]));
        }
    }

    /** "Sets a body's orbit ..: whether it was not set" */
    private static void orbitTellsWhetherItWasNotSet() {
        SkyAlmanac x = new SkyAlmanac();
        DUE.refusal("a refused first orbit", Due.ARGUMENT, () -> x.orbit(1, 0, 0, 0.76, 0));
        DUE.answer("the first orbit", true, () -> x.orbit(1, 10, 0, 0, 0));
        DUE.answer("the same again", false, () -> x.orbit(1, 10, 0, 0, 0));
        DUE.answer("another", false, () -> x.orbit(1, 20, 0, 0, 0));
        DUE.answer("another body's first", true, () -> x.orbit(2, 20, 0, 0, 0));
        DUE.answer("the newer orbit counts", 20.0, () -> x.longitude(1, 0));
    }

    /** "(its terms stay, there are none at first)" */
    private static void orbitKeepsTerms() {
        SkyAlmanac x = with(10, 0, 0, 0);
        DUE.answer("no terms at first", 10.0, () -> x.longitude(0, 0));
        x.term(0, 0, 5, 0, 0);
        DUE.answer("with a term", 15.0, () -> x.longitude(0, 0));
        x.orbit(0, 40, 0, 0, 0);
        DUE.answer("the term stays", 45.0, () -> x.longitude(0, 0));
        DUE.answer("and counts", 2, () -> x.term(0, 0, 1, 0, 0));
    }

    private static void refusedOrbitChangesNothing() {
        SkyAlmanac x = with(10, 1, 0.1, 20);
        double before = x.longitude(0, 3);
        DUE.refusal("a wrong L", Due.ARGUMENT, () -> x.orbit(0, 361, 2, 0.2, 30));
        DUE.refusal("a wrong N", Due.ARGUMENT, () -> x.orbit(0, 11, 101, 0.2, 30));
        DUE.refusal("a wrong E", Due.ARGUMENT, () -> x.orbit(0, 11, 2, 0.8, 30));
        DUE.refusal("a wrong W", Due.ARGUMENT, () -> x.orbit(0, 11, 2, 0.2, 361));
        DUE.answer("the orbit stays", before, () -> x.longitude(0, 3));
    }

    /** "NoSuchElementException, when there is no such body, or it is not set", before all else. */
    private static void termNeedsABodyThatIsSet() {
        SkyAlmanac x = with(0, 0, 0, 0);
        for (int body : NO_BODIES) {
            DUE.refusal("term of " + body, Due.ELEMENT, () -> x.term(body, 0, 1, 1, 1));
            DUE.refusal("wrong term of " + body, Due.ELEMENT, () -> x.term(body, 3, 1, 1, 1));
        }
        DUE.refusal("term of an unset body", Due.ELEMENT, () -> x.term(3, 0, 1, 1, 1));
        DUE.refusal("wrong term of an unset body", Due.ELEMENT, () -> x.term(3, 0, 11, 1, 1));
        DUE.answer("term of a set one", 1, () -> x.term(0, 0, 1, 1, 1));
    }

    /** "when power is not 0 .. 2, A not -10 .. 10, B not -360 .. 360, C not -100 .. 100" */
    private static void termLimits() {
        SkyAlmanac x = with(0, 0, 0, 0);
        int[] noPowers = {-1, 3, 256, Integer.MIN_VALUE, Integer.MAX_VALUE};
        for (int power : noPowers) {
            DUE.refusal("power " + power, Due.ARGUMENT, () -> x.term(0, power, 0, 0, 0));
        }
        double[] signs = {1, -1};
        for (double sign : signs) {
            DUE.refusal("A", Due.ARGUMENT, () -> x.term(0, 0, sign * above(10), 0, 0));
            DUE.refusal("B", Due.ARGUMENT, () -> x.term(0, 0, 0, sign * above(360), 0));
            DUE.refusal("C", Due.ARGUMENT, () -> x.term(0, 0, 0, 0, sign * above(100)));
        }
        for (double none : NO_NUMBERS) {
            DUE.refusal("A " + none, Due.ARGUMENT, () -> x.term(0, 0, none, 0, 0));
            DUE.refusal("B " + none, Due.ARGUMENT, () -> x.term(0, 0, 0, none, 0));
            DUE.refusal("C " + none, Due.ARGUMENT, () -> x.term(0, 0, 0, 0, none));
        }
        DUE.answer("A 10", 1, () -> x.term(0, 0, 10, 0, 0));
        DUE.answer("A -10", 2, () -> x.term(0, 1, -10, 0, 0));
        DUE.answer("B 360", 3, () -> x.term(0, 2, 0, 360, 0));
        DUE.answer("B -360", 4, () -> x.term(0, 0, 0, -360, 0));
        DUE.answer("C 100", 5, () -> x.term(0, 1, 0, 0, 100));
        DUE.answer("C -100", 6, () -> x.term(0, 2, 0, 0, -100));
    }

    /** "at most twelve TERMS" of all powers together; "IllegalStateException, when it has twelve" */
    private static void atMostTwelveTerms() {
        SkyAlmanac x = with(0, 0, 0, 0);
        x.orbit(1, 0, 0, 0, 0);
        double[] due = {0, 9.659258262890681, 0, 0, 0, 0, 0, 0, 0, 0, 0, 3.674481299679311, 354.5477840251605};
        for (int i = 0; i < 12; i++) {
            int n = i;
            DUE.answer("term " + (n + 1), n + 1, () -> x.term(0, n % 3, 10 - n * 1.7, n * 30 - 150, n * 17 - 90));
            if (due[n + 1] != 0) {
                DUE.answer("with " + (n + 1) + " terms", due[n + 1], () -> x.longitude(0, 1234.5));
            }
        }
        for (int power = 0; power <= 2; power++) {
            int p = power;
            DUE.refusal("term 13 of power " + p, Due.STATE, () -> x.term(0, p, 1, 1, 1));
        }
        DUE.refusal("a wrong power is told first", Due.ARGUMENT, () -> x.term(0, 3, 1, 1, 1));
        DUE.refusal("a wrong A is told first", Due.ARGUMENT, () -> x.term(0, 0, 11, 1, 1));
        DUE.answer("the refused ones add nothing", due[12], () -> x.longitude(0, 1234.5));
        x.orbit(0, 0, 0, 0, 0);
        DUE.refusal("a new orbit makes no room", Due.STATE, () -> x.term(0, 0, 1, 1, 1));
        DUE.answer("another body has room", 1, () -> x.term(1, 0, 1, 1, 1));
    }

    private static void refusedTermAddsNothing() {
        SkyAlmanac x = with(0, 0, 0, 0);
        x.term(0, 0, 5, 0, 0);
        DUE.refusal("a wrong power", Due.ARGUMENT, () -> x.term(0, -1, 1, 0, 0));
        DUE.refusal("a wrong B", Due.ARGUMENT, () -> x.term(0, 0, 1, 361, 0));
        DUE.answer("only the first", 5.0, () -> x.longitude(0, 0));
        DUE.answer("the second", 2, () -> x.term(0, 0, 2, 0, 0));
        DUE.answer("both", 7.0, () -> x.longitude(0, 0));
    }

    /** Terms at the limits of A, B and C, of each power, at the first and the last time. */
    private static void termsOfLargestSize() {
        double[][] due = { // by power: at 0, 0.7, 1000, -1000, 1000000, -1000000, with A 10
            {10, 3.420201433259034, 1.7364817766693048, 1.7364817766693048, 1.7364817766693048, 1.7364817766693048},
            {0, 0.002394141003281324, 1.7364817766693048, 358.2635182233307, 296.48177666930474, 63.518223330695264},
            {0, 1.6758987022969266e-06, 1.7364817766693048, 1.7364817766693048, 201.77666930481791,
                201.77666930481791},
        };
        double[][] negative = { // the same with A -10
            {350, 356.579798566741, 358.2635182233307, 358.2635182233307, 358.2635182233307, 358.2635182233307},
            {0, 359.99760585899674, 358.2635182233307, 1.7364817766693048, 63.518223330695264, 296.48177666930474},
            {0, 359.9999983241013, 358.2635182233307, 358.2635182233307, 158.22333069518209, 158.22333069518209},
        };
        double[] times = {0, 0.7, 1000, -1000, 1000000, -1000000};
        for (int power = 0; power <= 2; power++) {
            for (int turn = -360; turn <= 360; turn += 720) {
                SkyAlmanac x = with(0, 0, 0, 0);
                x.term(0, power, 10, turn, 100);
                x.orbit(1, 0, 0, 0, 0);
                x.term(1, power, -10, turn, -100);
                for (int i = 0; i < times.length; i++) {
                    double t = times[i];
                    DUE.answer("A 10, power " + power + " at " + t, due[power][i], () -> x.longitude(0, t));
                    DUE.answer("A -10, power " + power + " at " + t, negative[power][i], () -> x.longitude(1, t));
                }
            }
        }
    }

    /** "IllegalArgumentException, when F is not -90 .. 90 or G not -180 .. 180" */
    private static void observerLimits() {
        SkyAlmanac x = new SkyAlmanac();
        double[] signs = {1, -1};
        for (double sign : signs) {
            DUE.answer("F " + sign * 90, true, () -> x.observer(sign * 90, 0));
            DUE.answer("G " + sign * 180, true, () -> x.observer(0, sign * 180));
            DUE.refusal("F " + sign * above(90), Due.ARGUMENT, () -> x.observer(sign * above(90), 0));
            DUE.refusal("G " + sign * above(180), Due.ARGUMENT, () -> x.observer(0, sign * above(180)));
        }
        for (double none : NO_NUMBERS) {
            DUE.refusal("F " + none, Due.ARGUMENT, () -> x.observer(none, 0));
            DUE.refusal("G " + none, Due.ARGUMENT, () -> x.observer(0, none));
        }
        DUE.refusal("F as large as a G", Due.ARGUMENT, () -> x.observer(180, 0));
    }

    /** "The observer's latitude and longitude: whether one of them changed" */
    private static void observerTellsChanges() {
        SkyAlmanac x = new SkyAlmanac();
        DUE.answer("neither", false, () -> x.observer(0, 0));
        DUE.answer("the latitude alone", true, () -> x.observer(Double.MIN_VALUE, 0));
        DUE.answer("neither again", false, () -> x.observer(Double.MIN_VALUE, 0));
        DUE.answer("the longitude alone", true, () -> x.observer(Double.MIN_VALUE, 5));
        DUE.answer("both", true, () -> x.observer(5, Double.MIN_VALUE));
        DUE.answer("both changed places", true, () -> x.observer(Double.MIN_VALUE, 5));
        DUE.answer("back", true, () -> x.observer(0, 0));
        DUE.answer("0 below the point is 0", false, () -> x.observer(-0.0, -0.0));
    }

    private static void refusedObserverChangesNothing() {
        SkyAlmanac x = with(40, 1, 0.1, 20);
        x.observer(45, 180);
        double before = x.height(0, 0.3);
        DUE.refusal("a wrong F", Due.ARGUMENT, () -> x.observer(91, 5));
        DUE.refusal("a wrong G", Due.ARGUMENT, () -> x.observer(5, 181));
        DUE.answer("the height stays", before, () -> x.height(0, 0.3));
        DUE.answer("the observer stays", false, () -> x.observer(45, 180));
    }

    /** "(0 at first, east is above 0)": heights at the poles and on both sides of the half turn. */
    private static void observerAtTheEdges() {
        double[][] rows = { // F, G, heights at 0, 0.3, 1000000, -1000000
            {90, 0, 0.2789182163980561, 0.2807119070563739, -0.30746662465898356, 0.3006905007767357},
            {-90, 0, -0.2789182163980561, -0.2807119070563739, 0.30746662465898356, -0.3006905007767357},
            {90, 180, 0.2789182163980561, 0.2807119070563739, -0.30746662465898356, 0.3006905007767357},
            {0, 180, 0.5031919917712047, -0.932619121177451, -0.41728746694355384, 0.953712459936814},
            {0, -180, 0.5031919917712047, -0.932619121177451, -0.41728746694355384, 0.953712459936814},
            {45, 180, 0.5530354326804829, -0.46096801347400174, -0.5124785335599942, 0.8869968414958689},
            {0, 90, 0.8179256995705501, 0.22676508176182864, 0.8551815275891357, -0.004215271128851783},
            {0, -90, -0.8179256995705501, -0.22676508176182864, -0.8551815275891357, 0.004215271128851783},
        };
        double[] times = {0, 0.3, 1000000, -1000000};
        for (double[] row : rows) {
            SkyAlmanac x = with(40, 1, 0.1, 20);
            x.observer(row[0], row[1]);
            for (int i = 0; i < times.length; i++) {
                double t = times[i];
                DUE.answer("height for " + row[0] + ", " + row[1] + " at " + t, row[i + 2], () -> x.height(0, t));
            }
        }
    }

    /** "NoSuchElementException ..; IllegalArgumentException ..; IllegalStateException, when the anomaly fails" */
    private static void longitudeAndHeightThrowInThisOrder() {
        SkyAlmanac x = with(60, 0, 0.75, 0);
        for (int body : NO_BODIES) {
            DUE.refusal("longitude of " + body, Due.ELEMENT, () -> x.longitude(body, 0));
            DUE.refusal("height of " + body, Due.ELEMENT, () -> x.height(body, 0));
            DUE.refusal("longitude of " + body + " at no time", Due.ELEMENT, () -> x.longitude(body, 1e7));
            DUE.refusal("height of " + body + " at no time", Due.ELEMENT, () -> x.height(body, Double.NaN));
        }
        DUE.refusal("longitude of an unset body at no time", Due.ELEMENT, () -> x.longitude(1, 1e7));
        DUE.refusal("height of an unset body at no time", Due.ELEMENT, () -> x.height(1, 1e7));
        DUE.refusal("a longitude that fails, at no time", Due.ARGUMENT, () -> x.longitude(0, 1e7));
        DUE.refusal("a height that fails, at no time", Due.ARGUMENT, () -> x.height(0, 1e7));
        DUE.answer("nothing was worked out", 0, () -> x.count(false));
        DUE.refusal("a longitude that fails", Due.STATE, () -> x.longitude(0, 0));
        DUE.refusal("a height that fails", Due.STATE, () -> x.height(0, 0));
    }

    /** A body whose anomaly fails at one time is there at another one. */
    private static void failedLongitudes() {
        SkyAlmanac x = with(0, 1, 0.75, 0);
        DUE.answer("at the apsis", 0.0, () -> x.longitude(0, 0));
        DUE.refusal("behind it", Due.STATE, () -> x.longitude(0, 60));
        DUE.answer("at the other apsis", 180.0, () -> x.longitude(0, 180));
        DUE.refusal("terms do not help", Due.STATE, () -> {
            x.term(0, 0, 1, 1, 1);
            return x.longitude(0, 60);
        });
    }

    /** "How many longitudes were worked out by all calls (also within heights and events) .., how many .. failed" */
    private static void countOfLongitudes() {
        SkyAlmanac x = with(0, 1, 0.75, 0);
        x.orbit(3, 0, 0, 0, 0);
        counts(x, "no call yet", 0, 0);
        x.longitude(0, 0);
        counts(x, "a longitude", 1, 0);
        x.height(3, 0);
        counts(x, "a height of another body", 2, 0);
        DUE.refusal("a longitude that fails", Due.STATE, () -> x.longitude(0, 60));
        counts(x, "a longitude that failed", 3, 1);
        DUE.refusal("a height that fails", Due.STATE, () -> x.height(0, 60));
        counts(x, "a height that failed", 4, 2);
        x.event(3, 2, 0);
        counts(x, "a highest", 4 + 15 + 48, 2);
        x.sidereal(5);
        x.write(5, 0);
        x.angle(1, 1, 1, 1);
        x.observer(5, 5);
        counts(x, "what needs no longitude", 4 + 15 + 48, 2);
        x.orbit(0, 0, 0, 0, 0);
        counts(x, "a new orbit", 4 + 15 + 48, 2);
        counts(new SkyAlmanac(), "another object", 0, 0);
    }

    private static void counts(SkyAlmanac x, String after, int worked, int failed) {
        DUE.answer("longitudes after " + after, worked, () -> x.count(false));
        DUE.answer("failures after " + after, failed, () -> x.count(true));
    }
}
