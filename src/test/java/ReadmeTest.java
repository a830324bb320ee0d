import java.nio.file.Files;
import java.nio.file.Path;
import java.util.ArrayList;
import java.util.List;

/** That README.md tells the class as it is: its example, its answers, and its table of calls. */
public final class ReadmeTest {
    private static final Due DUE = new Due();

    public static void main(String[] args) throws Exception {
        List<String> readme = Files.readAllLines(Path.of("README.md"));
        answersOfTheExample();
        exampleStandsInReadme(readme);
        everyCallStandsInTheTable(readme);
        orderOfExceptions();
        DUE.end();
    }

    private static void answersOfTheExample() {
        // README.md, from here
        SkyAlmanac sky = new SkyAlmanac();
        long epoch = sky.day(1, 2000, 1, 1);
        int month = sky.date(2, 2299161, 1);
        long easter = sky.easter(2026);
        sky.orbit(0, 280.46, 0.9856474, 0.016709, 282.94);
        sky.term(0, 0, 0.5, 10, 13.1);
        sky.observer(52.5, 13.4);
        double longitude = sky.longitude(0, 100.25);
        double height = sky.height(0, 100.25);
        double turned = sky.sidereal(100.25);
        double rising = sky.event(0, 0, 172);
        int length = sky.write(longitude, 2);
        char first = (char) sky.letter(0);
        double read = sky.angle(-1, 12, 30, 36);
        int worked = sky.count(false);
        // README.md, up to here
        DUE.answer("epoch", 2451545, () -> epoch);
        DUE.answer("month", 10, () -> month);
        DUE.answer("easter", 2461136, () -> easter);
        DUE.answer("Easter is on 5 April", easter, () -> sky.day(1, 2026, 4, 5));
        DUE.answer("longitude", 20.94355859029497, () -> longitude);
        DUE.answer("height", -0.02605475634241916, () -> height);
        DUE.answer("turned", 109.27176684057252, () -> turned);
        DUE.answer("rising", 172.61803323030472, () -> rising);
        DUE.answer("length", 12, () -> length);
        DUE.answer("written", "20d56m36.81s", () -> written(sky, length));
        DUE.answer("first", '2', () -> first);
        DUE.answer("read", -12.51, () -> read);
        DUE.answer("worked", 33, () -> worked);
    }

    private static String written(SkyAlmanac sky, int length) {
        StringBuilder text = new StringBuilder();
        for (int i = 0; i < length; i++) {
            text.append((char) sky.letter(i));
        }
        return text.toString();
    }

    private static void exampleStandsInReadme(List<String> readme) throws Exception {
        List<String> test = Files.readAllLines(Path.of("src/test/java/ReadmeTest.java"));
        List<String> ran = between(test, "// README.md, from here", "// README.md, up to here");
        List<String> told = between(readme, "```java", "```");
        DUE.answer("lines of the example", 15, () -> ran.size());
        DUE.answer("the example in README.md", ran.toString(), () -> told.toString());
    }

    /** The lines between two others, without what is only a remark. */
    private static List<String> between(List<String> lines, String before, String behind) {
        List<String> found = new ArrayList<>();
        boolean inside = false;
        for (String line : lines) {
            if (inside && line.strip().equals(behind)) {
                return found;
            }
            if (inside) {
                found.add(line.replaceAll("//.*", "").strip());
            }
            inside |= line.strip().equals(before);
        }
        return found;
    }

    private static void everyCallStandsInTheTable(List<String> readme) {
        int calls = 0;
        for (java.lang.reflect.Method m : SkyAlmanac.class.getDeclaredMethods()) {
            if (java.lang.reflect.Modifier.isPublic(m.getModifiers())) {
                calls++;
                String row = rowOf(m.getName(), readme);
                DUE.answer("exceptions told of " + m.getName(), told(m), () -> row);
            }
        }
        int all = calls;
        DUE.answer("calls of the face", 14, () -> all);
    }

    private static String rowOf(String call, List<String> readme) {
        for (String line : readme) {
            if (line.startsWith("| `" + call + "(")) {
                String[] cells = line.split("\\|");
                return cells[cells.length - 1].strip();
            }
        }
        return "no row";
    }

    /** The order of the document's throws clause is the order in which its sentences name them. */
    private static String told(java.lang.reflect.Method m) {
        StringBuilder text = new StringBuilder();
        for (Class<?> e : m.getExceptionTypes()) {
            text.append(text.length() == 0 ? "" : ", then ").append(shortName(e));
        }
        return text.length() == 0 ? "never" : text.toString();
    }

    private static String shortName(Class<?> e) {
        if (e == Due.ARGUMENT) {
            return "argument";
        }
        if (e == Due.ELEMENT) {
            return "element";
        }
        return e == Due.INDEX ? "index" : "state";
    }

    private static void orderOfExceptions() {
        SkyAlmanac x = new SkyAlmanac();
        double nan = Double.NaN;
        DUE.refusal("orbit: index first", Due.INDEX, () -> x.orbit(4, nan, 0, 0, 0));
        DUE.refusal("term: element first", Due.ELEMENT, () -> x.term(0, 3, nan, 0, 0));
        DUE.refusal("longitude: element first", Due.ELEMENT, () -> x.longitude(0, nan));
        DUE.refusal("height: element first", Due.ELEMENT, () -> x.height(0, nan));
        DUE.refusal("event: argument first", Due.ARGUMENT, () -> x.event(0, 3, 0));
        DUE.refusal("event: element then", Due.ELEMENT, () -> x.event(0, 2, 0));
        x.orbit(0, 0, 0, 0, 0);
        for (int i = 0; i < 12; i++) {
            x.term(0, 0, 0, 0, 0);
        }
        DUE.refusal("term: argument before state", Due.ARGUMENT, () -> x.term(0, 3, 0, 0, 0));
        DUE.refusal("term: state at the end", Due.STATE, () -> x.term(0, 0, 0, 0, 0));
    }
}
