/**
 * The boundary cases of the sentences on events, a method for each: "Terms", promises 10 and 15.
 * The doubles that are due were worked out from the document by another program.
 */
public final class EventEdgeTest {
    private static final Due DUE = new Due();
    private static final int RISING = 0;
    private static final int SETTING = 1;
    private static final int HIGHEST = 2;

    public static void main(String[] args) {
        kindsZeroToTwo();
        daysFromFirstToLast();
        bodiesThatAreSet();
        argumentsAreToldFirst();
        firstOfSeveralRisings();
        manyTurnsADay();
        risingAtTheDaysEnd();
        settingBehindAZero();
        zeroCountsAsUp();
        noSuchEvent();
        highestAtTheDaysEnds();
        firstOfSeveralHighest();
        heightsThatAreNotAskedFor();
        failureInTheParts();
        failureWhileHalving();
        failureWhileThirding();
        eventsChangeNothingElse();
        DUE.end();
    }

    private static void event(SkyAlmanac x, int kind, int day, Object want, int worked, int failed) {
        String call = "event(0, " + kind + ", " + day + ")";
        int before = x.count(false);
        int failedBefore = x.count(true);
        DUE.answer(call, want, () -> x.event(0, kind, day));
        DUE.answer("longitudes of " + call, worked, () -> x.count(false) - before);
        DUE.answer("failures of " + call, failed, () -> x.count(true) - failedBefore);
    }

    private static SkyAlmanac with(double l, double n, double e, double f, double g) {
        SkyAlmanac x = new SkyAlmanac();
        x.orbit(0, l, n, e, 0);
        x.observer(f, g);
        return x;
    }

    private static SkyAlmanac atThePole(double l, double n) {
        return with(l, n, 0, 90, 0);
    }

    /** "(kind 0 rising, 1 setting, 2 highest)", "IllegalArgumentException, when kind is none of these" */
    private static void kindsZeroToTwo() {
        SkyAlmanac x = with(0, -100, 0, 0, -60);
        event(x, RISING, 0, 0.10938030481338501, 23, 0);
        event(x, SETTING, 0, 0.5032273530960083, 30, 0);
        event(x, HIGHEST, 0, 0.30531569211884113, 63, 0);
        int[] none = {-1, 3, 256, Integer.MIN_VALUE, Integer.MAX_VALUE};
        for (int kind : none) {
            event(x, kind, 0, Due.ARGUMENT, 0, 0);
        }
    }

    /** "or day is not -999999 .. 999998" */
    private static void daysFromFirstToLast() {
        SkyAlmanac x = with(0, -100, 0, 0, -60);
        event(x, RISING, -999999, -999998.5696803331, 28, 0);
        event(x, SETTING, -999999, -999998.9648371935, 22, 0);
        event(x, HIGHEST, -999999, -999998.3772354161, 63, 0);
        event(x, RISING, 999998, 999998.0107006431, 22, 0);
        event(x, SETTING, 999998, 999998.3947736025, 28, 0);
        event(x, HIGHEST, 999998, 999998.9850049962, 63, 0);
        int[] none = {-1000000, 999999, 1000000, -1000001, Integer.MIN_VALUE, Integer.MAX_VALUE};
        for (int day : none) {
            for (int kind = RISING; kind <= HIGHEST; kind++) {
                event(x, kind, day, Due.ARGUMENT, 0, 0);
            }
        }
    }

    /** "NoSuchElementException, when there is no such body, it is not set" */
    private static void bodiesThatAreSet() {
        SkyAlmanac x = with(0, 0, 0, 0, 0);
        int[] none = {-1, 1, 2, 3, 4, 256, Integer.MIN_VALUE, Integer.MAX_VALUE};
        for (int body : none) {
            for (int kind = RISING; kind <= HIGHEST; kind++) {
                int k = kind;
                DUE.refusal("event " + k + " of " + body, Due.ELEMENT, () -> x.event(body, k, 0));
            }
        }
        DUE.answer("they work out nothing", 0, () -> x.count(false));
        x.orbit(3, 0, 0, 0, 0);
        DUE.answer("the last body", x.event(0, RISING, 0), () -> x.event(3, RISING, 0));
    }

    /** Promise 10 names IllegalArgumentException before NoSuchElementException and IllegalStateException. */
    private static void argumentsAreToldFirst() {
        SkyAlmanac x = with(60, 0, 0.75, 0, 0);
        int[] bodies = {-1, 0, 1, 4};
        for (int body : bodies) {
            DUE.refusal("no kind, body " + body, Due.ARGUMENT, () -> x.event(body, 3, 0));
            DUE.refusal("no day, body " + body, Due.ARGUMENT, () -> x.event(body, 0, 999999));
            DUE.refusal("no kind and no day, body " + body, Due.ARGUMENT, () -> x.event(body, -1, -1000000));
        }
        DUE.answer("nothing was worked out", 0, () -> x.count(false));
        event(x, RISING, 0, Due.STATE, 1, 1);
        event(x, SETTING, 0, Due.STATE, 1, 1);
        event(x, HIGHEST, 0, Due.STATE, 1, 1);
    }

    /** "RISING: the first j from 1 on .."; "SETTING: the first ..": a quick body does so twice a day. */
    private static void firstOfSeveralRisings() {
        SkyAlmanac x = with(20, -100, 0, 0, 0);
        event(x, RISING, 3, 3.140339493751526, 24, 0);
        event(x, SETTING, 3, 3.5306915640830994, 30, 0);
        event(x, HIGHEST, 3, 3.3366410752731994, 63, 0);
        SkyAlmanac y = with(200, -100, 0, 0, 0);
        event(y, RISING, 3, 3.5306915640830994, 30, 0);
        event(y, SETTING, 3, 3.140339493751526, 24, 0);
        event(y, HIGHEST, 3, 3.7294157026412726, 63, 0);
    }

    /** A term of power 2 makes a body turn many times within a day that is far off. */
    private static void manyTurnsADay() {
        SkyAlmanac x = atThePole(0, 0);
        x.term(0, 2, 10, 0, 90);
        event(x, RISING, 5000, 5000.488412559032, 29, 0);
        event(x, SETTING, 5000, Due.ELEMENT, 17, 0);
        event(x, HIGHEST, 5000, 5000.765629569363, 63, 0);
        event(x, RISING, 20000, 20000.21216183901, 25, 0);
        event(x, SETTING, 20000, 20000.090147137642, 23, 0);
        event(x, HIGHEST, 20000, 20000.750145957372, 63, 0);
        event(x, RISING, 999998, 999998.2530505061, 26, 0);
        event(x, SETTING, 999998, 999998.2264705896, 25, 0);
        event(x, HIGHEST, 999998, 999998.3030327433, 63, 0);
        event(x, RISING, -999999, -999998.5922837257, 28, 0);
        event(x, SETTING, -999999, -999998.8836616278, 23, 0);
        event(x, HIGHEST, -999999, -999998.3030327433, 63, 0);
    }

    /** "j from 0 to 16": a height that is 0 at the day's end rises on this day, and not on the next one. */
    private static void risingAtTheDaysEnd() {
        SkyAlmanac x = atThePole(-16, 16);
        event(x, RISING, 0, 1.0, 37, 0);
        event(x, RISING, 1, Due.ELEMENT, 17, 0);
    }

    /** A height that is 0 at the day's end has not set on this day, but on the next one. */
    private static void settingBehindAZero() {
        SkyAlmanac x = atThePole(164, 16);
        event(x, SETTING, 0, Due.ELEMENT, 17, 0);
        event(x, SETTING, 1, 1.0000000596046448, 22, 0);
    }

    /** "whose height is at least 0 while that before is below 0": 0 is up, also at j = 0 and 1. */
    private static void zeroCountsAsUp() {
        event(atThePole(0, 16), RISING, 0, Due.ELEMENT, 17, 0);
        event(atThePole(0, 16), SETTING, 0, Due.ELEMENT, 17, 0);
        event(atThePole(180, 16), RISING, 0, Due.ELEMENT, 17, 0);
        event(atThePole(180, 16), SETTING, 0, 5.960464477539063e-08, 22, 0);
        event(atThePole(-1, 16), RISING, 0, 0.0625, 22, 0);
        event(atThePole(-1, 16), SETTING, 0, Due.ELEMENT, 17, 0);
        event(atThePole(0, 0), RISING, 0, Due.ELEMENT, 17, 0);
        event(atThePole(0, 0), SETTING, 0, Due.ELEMENT, 17, 0);
    }

    /** "NoSuchElementException, when .. there is no such event": always up, and always down. */
    private static void noSuchEvent() {
        event(atThePole(90, 0), RISING, 0, Due.ELEMENT, 17, 0);
        event(atThePole(90, 0), SETTING, 0, Due.ELEMENT, 17, 0);
        event(atThePole(270, 0), RISING, 0, Due.ELEMENT, 17, 0);
        event(atThePole(270, 0), SETTING, 0, Due.ELEMENT, 17, 0);
        event(with(90, 0, 0, -90, 0), RISING, 0, Due.ELEMENT, 17, 0);
        event(with(90, 0, 0, -90, 0), SETTING, 0, Due.ELEMENT, 17, 0);
    }

    /** "HIGHEST: j from 1 to 15": a body that climbs or sinks all day is highest near the day's end or beginning. */
    private static void highestAtTheDaysEnds() {
        event(atThePole(10, 1), HIGHEST, 0, 0.9999962873004961, 63, 0);
        event(atThePole(100, 1), HIGHEST, 0, 3.712699503971821e-06, 63, 0);
        event(atThePole(-16, 16), HIGHEST, 1, 1.9999962873004962, 63, 0);
        event(atThePole(164, 16), HIGHEST, 1, 1.0000037126995038, 63, 0);
    }

    /** "(of several the first)", and "if the height at m is less than that at n, a = m, else b = n" */
    private static void firstOfSeveralHighest() {
        event(atThePole(90, 0), HIGHEST, 0, 3.712699503971821e-06, 63, 0);
        event(atThePole(270, 0), HIGHEST, 0, 3.712699503971821e-06, 63, 0);
        event(atThePole(0, 0), HIGHEST, 0, 3.712699503971821e-06, 63, 0);
    }

    /** "RISING and SETTING from j = 0 up to the j that is found": the anomaly fails at the day's end alone. */
    private static void heightsThatAreNotAskedFor() {
        SkyAlmanac x = with(125.2, -10, 0.75, 0, 0);
        DUE.refusal("the day's end", Due.STATE, () -> x.height(0, 1));
        event(x, RISING, 0, 0.4049472212791443, 28, 0);
        event(x, SETTING, 0, 0.8990132808685303, 36, 0);
        event(x, HIGHEST, 0, 0.6518599593975996, 63, 0);
    }

    /** "when one fails, that is the end": the last part of the day is the one. */
    private static void failureInTheParts() {
        event(with(125.2, -10, 0.75, 0, 150), RISING, 0, Due.STATE, 17, 1);
        event(with(125.2, -10, 0.75, 0, 150), SETTING, 0, 0.4872787594795227, 29, 0);
        event(with(125.2, -10, 0.75, 0, -30), SETTING, 0, Due.STATE, 17, 1);
        event(with(125.2, -10, 0.75, 0, -30), RISING, 0, 0.4872787594795227, 29, 0);
    }

    /** No part of the day fails, but a time between two of them does. */
    private static void failureWhileHalving() {
        event(with(310, -100, 0.4033, 0, -149), RISING, 0, Due.STATE, 4, 1);
        event(with(44, 100, 0.4035, 0, -131), SETTING, 0, Due.STATE, 5, 1);
        event(with(305, -100, 0.4033, 0, 48), SETTING, 0, Due.STATE, 4, 1);
    }

    /** "for HIGHEST that at m before that at n": the failing one is the first m, the first n, and later ones. */
    private static void failureWhileThirding() {
        event(with(335, -100, 0.4035, 0, -161), HIGHEST, 0, Due.STATE, 16, 1);
        event(with(52, 100, 0.4033, 0, -180), HIGHEST, 0, Due.STATE, 17, 1);
        event(with(60, 100, 0.404, 0, -177), HIGHEST, 0, Due.STATE, 18, 1);
        event(with(7, -100, 0.4033, 0, 106), HIGHEST, 0, Due.STATE, 19, 1);
        event(with(302, 80, 0.4035, 0, 31), HIGHEST, 0, Due.STATE, 30, 1);
    }

    private static void eventsChangeNothingElse() {
        SkyAlmanac x = with(60, 0, 0.75, 10, 20);
        x.write(-5, 1);
        event(x, HIGHEST, 0, Due.STATE, 1, 1);
        event(x, HIGHEST, 0, Due.STATE, 1, 1);
        DUE.answer("the observer stays", false, () -> x.observer(10, 20));
        DUE.answer("what was written stays", (int) '-', () -> x.letter(0));
        DUE.answer("the body stays set", false, () -> x.orbit(0, 0, 0, 0, 0));
        DUE.answer("the counts stay", 2, () -> x.count(true));
    }
}
