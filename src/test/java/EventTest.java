/**
 * Promise 10 (event), and with it how many longitudes events work out (promise 15).
 * The doubles that are due were worked out from the document by another program.
 */
public final class EventTest {
    private static final Due DUE = new Due();
    private static final int RISING = 0;
    private static final int SETTING = 1;
    private static final int HIGHEST = 2;

    public static void main(String[] args) {
        eventsOfASun();
        noEventAtThePole();
        equalHeights();
        heightsOfExactlyZero();
        allPartsOfADay();
        failuresEndAnEvent();
        wrongArguments();
        DUE.end();
    }

    private static void event(SkyAlmanac x, int body, int kind, int day, Object want, int worked, int failed) {
        String call = "event(" + body + ", " + kind + ", " + day + ")";
        int before = x.count(false);
        int failedBefore = x.count(true);
        DUE.answer(call, want, () -> x.event(body, kind, day));
        DUE.answer("longitudes of " + call, worked, () -> x.count(false) - before);
        DUE.answer("failures of " + call, failed, () -> x.count(true) - failedBefore);
    }

    private static SkyAlmanac withSun(double f, double g) {
        SkyAlmanac x = new SkyAlmanac();
        x.orbit(0, 280.46, 0.9856474, 0.016709, 282.94);
        x.observer(f, g);
        return x;
    }

    private static void eventsOfASun() {
        SkyAlmanac x = withSun(52.5, 13.4);
        event(x, 0, RISING, 0, 0.8084591627120972, 34, 0);
        event(x, 0, SETTING, 0, 0.12169080972671509, 23, 0);
        event(x, 0, HIGHEST, 0, 0.9654524759376348, 63, 0);
        event(x, 0, RISING, 172, 172.61858958005905, 31, 0);
        event(x, 0, SETTING, 172, 172.3096439242363, 26, 0);
        event(x, 0, HIGHEST, 172, 172.96418245048466, 63, 0);
        event(x, 0, RISING, -999999, -999998.2163015008, 34, 0);
        event(x, 0, SETTING, -999999, -999998.8397608995, 24, 0);
        event(x, 0, HIGHEST, -999999, -999998.0273916854, 63, 0);
        event(x, 0, RISING, 999998, 999998.7887957096, 34, 0);
        event(x, 0, SETTING, 999998, 999998.1203219891, 23, 0);
        event(x, 0, HIGHEST, 999998, 999998.9542486013, 63, 0);
    }

    private static void noEventAtThePole() {
        SkyAlmanac x = withSun(90, 0);
        event(x, 0, RISING, 172, Due.ELEMENT, 17, 0);
        event(x, 0, SETTING, 172, Due.ELEMENT, 17, 0);
        event(x, 0, HIGHEST, 172, 172.00000371269948, 63, 0);
    }

    /** At the pole a body that stands still is always as high: the first part of the day is the one. */
    private static void equalHeights() {
        SkyAlmanac x = new SkyAlmanac();
        x.observer(90, 0);
        x.orbit(0, 90, 0, 0, 0);
        event(x, 0, HIGHEST, 5, 5.000003712699504, 63, 0);
        x.orbit(0, 0, 0, 0, 0);
        DUE.answer("a height of 0", 0.0, () -> x.height(0, -4.5));
        event(x, 0, RISING, -5, Due.ELEMENT, 17, 0);
        event(x, 0, SETTING, -5, Due.ELEMENT, 17, 0);
        event(x, 0, HIGHEST, -5, -4.999996287300496, 63, 0);
    }

    /** At the pole a height is exactly 0 where the longitude is 0 or 180. */
    private static void heightsOfExactlyZero() {
        SkyAlmanac x = new SkyAlmanac();
        x.observer(90, 0);
        x.orbit(0, -1, 32, 0, 0);
        event(x, 0, RISING, 0, 0.03125, 22, 0);
        x.orbit(0, 179, 32, 0, 0);
        event(x, 0, SETTING, 0, 0.031250059604644775, 22, 0);
        x.orbit(0, -2, 32, 0, 0);
        event(x, 0, RISING, 0, 0.0625, 22, 0);
        x.orbit(0, 178, 32, 0, 0);
        event(x, 0, SETTING, 0, 0.06250005960464478, 23, 0);
    }

    private static void allPartsOfADay() {
        double[][] rows = { // longitude of a body that stands still, rising, setting, highest
            {0, 7.949178636074066, 7.450543820858002, 7.201225502860332},
            {15, 7.987439453601837, 7.4888046979904175, 7.2394887495982125},
            {30, 7.029226660728455, 7.527861475944519, 7.278544332165147},
            {60, 7.112078130245209, 7.610712945461273, 7.361395491396946},
            {90, 7.201226472854614, 7.699861228466034, 7.450545183590634},
            {135, 7.332711398601532, 7.831346154212952, 7.582029986893504},
            {165, 7.412283003330231, 7.91091775894165, 7.661599397882718},
            {195, 7.4888046979904175, 7.987439453601837, 7.738122640667797},
            {225, 7.568376302719116, 7.069741487503052, 7.817692552608289},
            {255, 7.654761493206024, 7.15612667798996, 7.904078235530493},
            {270, 7.699861228466034, 7.201226472854614, 7.949179904176859},
            {285, 7.744960963726044, 7.246326208114624, 7.994279133110043},
            {300, 7.789009511470795, 7.290374755859375, 7.041057092197153},
            {330, 7.871860980987549, 7.373226225376129, 7.123910276920228},
        };
        SkyAlmanac x = new SkyAlmanac();
        for (double[] row : rows) {
            x.orbit(1, row[0], 0, 0, 0);
            for (int kind = RISING; kind <= HIGHEST; kind++) {
                int k = kind;
                DUE.answer("event " + k + " at longitude " + row[0], row[k + 1], () -> x.event(1, k, 7));
            }
        }
    }

    private static void failuresEndAnEvent() {
        SkyAlmanac x = new SkyAlmanac();
        // The anomaly fails from the eleventh part of the day on.
        x.orbit(2, 180, 100, 0.75, 0);
        event(x, 2, RISING, 0, 0.5285821557044983, 30, 0);
        event(x, 2, SETTING, 0, Due.STATE, 12, 1);
        event(x, 2, HIGHEST, 0, Due.STATE, 11, 1);
        x.observer(0, 180);
        event(x, 2, RISING, 0, Due.STATE, 12, 1);
        event(x, 2, SETTING, 0, 0.5285821557044983, 30, 0);
        SkyAlmanac y = new SkyAlmanac();
        // The anomaly fails at the day's beginning only, which the highest does not ask for.
        y.orbit(3, 115, 10, 0.75, 0);
        event(y, 3, RISING, 0, Due.STATE, 1, 1);
        event(y, 3, SETTING, 0, Due.STATE, 1, 1);
        event(y, 3, HIGHEST, 0, 0.6547398747709504, 63, 0);
    }

    private static void wrongArguments() {
        SkyAlmanac x = withSun(0, 0);
        int[] noKinds = {-1, 3, Integer.MAX_VALUE, Integer.MIN_VALUE};
        int[] noDays = {-1000000, 999999, Integer.MAX_VALUE, Integer.MIN_VALUE};
        int[] noBodies = {-1, 1, 4, Integer.MAX_VALUE, Integer.MIN_VALUE};
        for (int kind : noKinds) {
            event(x, 0, kind, 0, Due.ARGUMENT, 0, 0);
            event(x, 1, kind, 0, Due.ARGUMENT, 0, 0);
        }
        for (int day : noDays) {
            event(x, 0, HIGHEST, day, Due.ARGUMENT, 0, 0);
            event(x, -1, RISING, day, Due.ARGUMENT, 0, 0);
        }
        for (int body : noBodies) {
            event(x, body, SETTING, 0, Due.ELEMENT, 0, 0);
        }
    }
}
