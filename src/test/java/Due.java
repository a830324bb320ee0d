/** Compares answers and exceptions with those that are due, and tells those that differ. */
final class Due {
    interface Call {
        Object answer();
    }

    static final Class<IllegalArgumentException> ARGUMENT = IllegalArgumentException.class;
    static final Class<IllegalStateException> STATE = IllegalStateException.class;
    static final Class<IndexOutOfBoundsException> INDEX = IndexOutOfBoundsException.class;
    static final Class<java.util.NoSuchElementException> ELEMENT = java.util.NoSuchElementException.class;

    private static final int MOST_TOLD = 50;

    private int wrong = 0;
    private int asked = 0;

    /** A whole number, a truth or a double; 0.0 and -0.0 are the same answer. */
    void answer(String call, Object want, Call made) {
        tell(call, want, outcome(made));
    }

    void refusal(String call, Class<? extends RuntimeException> want, Call made) {
        tell(call, want, outcome(made));
    }

    void end() {
        System.out.println(asked + " answers looked at, " + wrong + " are not as due");
        if (wrong != 0) {
            System.exit(1);
        }
    }

    private void tell(String call, Object want, Object got) {
        asked++;
        if (!same(want, got)) {
            wrong++;
            if (wrong <= MOST_TOLD) {
                System.out.println(call + " answered " + got + ", due is " + want);
            }
        }
    }

    private static Object outcome(Call made) {
        try {
            return made.answer();
        } catch (RuntimeException e) {
            return e.getClass();
        }
    }

    private static boolean same(Object want, Object got) {
        if (want instanceof Double && got instanceof Double) {
            return ((Double) want).doubleValue() == ((Double) got).doubleValue();
        }
        if (isWhole(want) && isWhole(got)) {
            return ((Number) want).longValue() == ((Number) got).longValue();
        }
        return want.equals(got);
    }

    private static boolean isWhole(Object x) {
        return x instanceof Integer || x instanceof Long;
    }
}
