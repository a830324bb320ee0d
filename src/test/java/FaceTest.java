import java.lang.reflect.Constructor;
import java.lang.reflect.Field;
import java.lang.reflect.Method;
import java.lang.reflect.Modifier;
import java.util.Random;
import java.util.Set;
import java.util.TreeSet;

/** The public face, promise 1 (a new object), and that no call throws what the document does not name. */
public final class FaceTest {
    private static final Due DUE = new Due();

    private static final String[] FACE = {
        "long day(int, int, int, int) IllegalArgumentException",
        "int date(int, long, int) IllegalArgumentException",
        "long easter(int) IllegalArgumentException",
        "boolean orbit(int, double, double, double, double) IllegalArgumentException IndexOutOfBoundsException",
        "int term(int, int, double, double, double)"
            + " IllegalArgumentException IllegalStateException NoSuchElementException",
        "boolean observer(double, double) IllegalArgumentException",
        "double longitude(int, double) IllegalArgumentException IllegalStateException NoSuchElementException",
        "double height(int, double) IllegalArgumentException IllegalStateException NoSuchElementException",
        "double event(int, int, int) IllegalArgumentException IllegalStateException NoSuchElementException",
        "double sidereal(double) IllegalArgumentException",
        "int write(double, int) IllegalArgumentException",
        "int letter(int) IndexOutOfBoundsException",
        "double angle(int, int, int, double) IllegalArgumentException",
        "int count(boolean)",
    };

    public static void main(String[] args) throws Exception {
        members();
        newObject();
        anyArguments();
        DUE.end();
    }

    private static void members() {
        Set<String> want = new TreeSet<>(Set.of(FACE));
        Set<String> got = new TreeSet<>();
        Set<String> privateNames = new TreeSet<>();
        Set<String> publicNames = new TreeSet<>();
        for (Method m : SkyAlmanac.class.getDeclaredMethods()) {
            if (Modifier.isPrivate(m.getModifiers())) {
                privateNames.add(m.getName());
            } else {
                publicNames.add(m.getName());
                got.add(described(m));
            }
        }
        DUE.answer("methods", want.toString(), () -> got.toString());
        privateNames.retainAll(publicNames);
        DUE.answer("private methods with a public one's name", "[]", () -> privateNames.toString());

        Set<String> fields = new TreeSet<>();
        for (Field f : SkyAlmanac.class.getDeclaredFields()) {
            if (!Modifier.isPrivate(f.getModifiers())) {
                fields.add(Modifier.toString(f.getModifiers()) + " " + f.getType() + " " + f.getName());
            }
        }
        DUE.answer("constants", "[public static final int NONE]", () -> fields.toString());
        DUE.answer("NONE", -1, () -> SkyAlmanac.NONE);
        DUE.answer("class", "public final", () -> Modifier.toString(SkyAlmanac.class.getModifiers()));
        Constructor<?>[] made = SkyAlmanac.class.getDeclaredConstructors();
        DUE.answer("constructors", 1, () -> made.length);
        DUE.answer("constructor", "public SkyAlmanac()", () -> made[0].toString());
    }

    private static String described(Method m) {
        StringBuilder text = new StringBuilder();
        text.append(m.getReturnType()).append(' ').append(m.getName()).append('(');
        for (int i = 0; i < m.getParameterCount(); i++) {
            text.append(i == 0 ? "" : ", ").append(m.getParameterTypes()[i]);
        }
        text.append(')');
        Set<String> thrown = new TreeSet<>();
        for (Class<?> e : m.getExceptionTypes()) {
            thrown.add(e.getSimpleName());
        }
        for (String e : thrown) {
            text.append(' ').append(e);
        }
        return text.toString();
    }

    private static void newObject() {
        SkyAlmanac x = new SkyAlmanac();
        for (int body = 0; body < 4; body++) {
            int b = body;
            DUE.refusal("new: longitude of " + b, Due.ELEMENT, () -> x.longitude(b, 0));
            DUE.refusal("new: height of " + b, Due.ELEMENT, () -> x.height(b, 0));
            DUE.refusal("new: event of " + b, Due.ELEMENT, () -> x.event(b, 2, 0));
            DUE.refusal("new: term of " + b, Due.ELEMENT, () -> x.term(b, 0, 1, 1, 1));
        }
        DUE.refusal("new: letter(0)", Due.INDEX, () -> x.letter(0));
        DUE.answer("new: count(false)", 0, () -> x.count(false));
        DUE.answer("new: count(true)", 0, () -> x.count(true));
        DUE.answer("new: observer(0, 0)", false, () -> x.observer(0, 0));
        DUE.answer("new: orbit", true, () -> x.orbit(3, 0, 0, 0, 0));
        DUE.answer("new: first term", 1, () -> x.term(3, 0, 1, 1, 1));
        SkyAlmanac other = new SkyAlmanac();
        DUE.refusal("another object has no bodies", Due.ELEMENT, () -> other.longitude(3, 0));
    }

    private static void anyArguments() throws Exception {
        Random random = new Random(20261117);
        for (int run = 0; run < 200; run++) {
            SkyAlmanac x = new SkyAlmanac();
            for (int i = 0; i < 512; i++) {
                Method m = anyMethod(random);
                Object[] given = new Object[m.getParameterCount()];
                for (int j = 0; j < given.length; j++) {
                    given[j] = anyValue(m.getParameterTypes()[j], random);
                }
                callIsAsDeclared(x, m, given);
            }
        }
    }

    private static Method anyMethod(Random random) {
        Method[] all = SkyAlmanac.class.getMethods();
        Method m = all[random.nextInt(all.length)];
        while (m.getDeclaringClass() != SkyAlmanac.class) {
            m = all[random.nextInt(all.length)];
        }
        return m;
    }

    private static void callIsAsDeclared(SkyAlmanac x, Method m, Object[] given) throws Exception {
        try {
            Object got = m.invoke(x, given);
            if (got instanceof Double) {
                DUE.answer(m.getName() + " is a number", true, () -> Double.isFinite((Double) got));
            }
        } catch (java.lang.reflect.InvocationTargetException e) {
            boolean declared = false;
            for (Class<?> allowed : m.getExceptionTypes()) {
                declared |= allowed == e.getCause().getClass();
            }
            boolean asDeclared = declared;
            DUE.answer(m.getName() + java.util.Arrays.toString(given) + " " + e.getCause(), true, () -> asDeclared);
        }
    }

    private static Object anyValue(Class<?> type, Random random) {
        int[] wholes = {0, 0, 0, 1, 1, 2, 2, 3, 3, 4, 12, 28, 31, -1, 1582, 1000000, -1000000,
            Integer.MAX_VALUE, Integer.MIN_VALUE};
        double[] parts = {0, -0.0, 0.3, 0.75, 1, -1, 10, 59.9, 90, -90, 180, 360, -360, 99.5, 1e5, -1e6, 1e6,
            Double.MIN_VALUE, Double.MAX_VALUE, -Double.MAX_VALUE, Double.NaN,
            Double.POSITIVE_INFINITY, Double.NEGATIVE_INFINITY};
        if (type == boolean.class) {
            return random.nextBoolean();
        }
        if (type == double.class) {
            return random.nextInt(3) == 0 ? parts[random.nextInt(parts.length)] : random.nextDouble() * 20 - 5;
        }
        int whole = random.nextInt(4) == 0 ? wholes[random.nextInt(wholes.length)] : random.nextInt(4);
        if (type == long.class) {
            return random.nextInt(9) == 0 ? random.nextLong() : (long) whole * 1000;
        }
        return whole;
    }
}
