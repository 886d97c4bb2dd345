import java.lang.reflect.Method;
import java.nio.file.Files;
import java.nio.file.Path;
import java.util.Map;
import java.util.TreeMap;
import java.util.regex.Matcher;
import java.util.regex.Pattern;

/** Holds README.md to the class: its example answers what stands behind each call, and its rows name each call. */
public final class ReadmeTest {
    private static final Map<String, Integer> NAMES =
            Map.of("BAD", SlideLand.BAD, "NO", SlideLand.NO, "FULL", SlideLand.FULL, "NONE", SlideLand.NONE);
    private static final Pattern MADE = Pattern.compile("SlideLand x = new SlideLand\\(\\);.*");
    private static final Pattern WRITTEN = Pattern.compile("for \\(char c : \"(.*)\"\\.toCharArray\\(\\)\\) x\\.write\\(c\\);");
    private static final Pattern CALLED = Pattern.compile("x\\.(\\w+)\\(([-0-9, ]*)\\); +// (-?[0-9]+|[A-Z]+):? .*");
    private static int wrong = 0;
    private static SlideLand x = null;

    public static void main(String[] args) throws Exception {
        String page = Files.readString(Path.of("README.md"));
        example(page);
        rows(page);
        System.out.println(wrong == 0 ? "ReadmeTest: README.md says what is so" : wrong + " lines of README.md are not so");
        if (wrong != 0) {
            System.exit(1);
        }
    }

    private static void notSo(String line, String why) {
        wrong++;
        System.out.println("README.md: " + line + ": " + why);
    }

    private static Map<String, Method> face() {
        Map<String, Method> face = new TreeMap<>();
        for (Method m : SlideLand.class.getMethods()) {
            if (m.getDeclaringClass() == SlideLand.class) {
                face.put(m.getName(), m);
            }
        }
        return face;
    }

    private static void example(String page) throws Exception {
        Matcher block = Pattern.compile("(?s)```java\n(.*?)```").matcher(page);
        if (!block.find()) {
            notSo("the example", "there is none");
            return;
        }
        int called = 0;
        for (String line : block.group(1).split("\n")) {
            Matcher written = WRITTEN.matcher(line);
            Matcher call = CALLED.matcher(line);
            if (MADE.matcher(line).matches()) {
                x = new SlideLand();
            } else if (written.matches() && x != null) {
                written.group(1).chars().forEach(c -> x.write(c));
            } else if (call.matches() && x != null) {
                called++;
                answer(line, call);
            } else {
                notSo(line, "not in a form that this test knows");
            }
        }
        if (called < 8) {
            notSo("the example", "has " + called + " calls with answers");
        }
    }

    private static void answer(String line, Matcher call) throws Exception {
        Method m = face().get(call.group(1));
        String[] numbers = call.group(2).isEmpty() ? new String[0] : call.group(2).split(", ");
        if (m == null || m.getParameterCount() != numbers.length) {
            notSo(line, "no such call");
            return;
        }
        Object[] given = new Object[numbers.length];
        for (int i = 0; i < numbers.length; i++) {
            given[i] = Integer.parseInt(numbers[i]);
        }
        Integer named = NAMES.get(call.group(3));
        int want = named == null ? Integer.parseInt(call.group(3)) : named;
        int got = (Integer) m.invoke(x, given);
        if (got != want) {
            notSo(line, "answered " + got);
        }
    }

    /** Each call of the face has one row that begins with it and as many names as it takes numbers. */
    private static void rows(String page) {
        for (Method m : face().values()) {
            Matcher row = Pattern.compile("(?m)^\\| `" + m.getName() + "\\((.*?)\\)`").matcher(page);
            if (!row.find()) {
                notSo(m.getName(), "has no row");
                continue;
            }
            int takes = row.group(1).isEmpty() ? 0 : row.group(1).split(", ").length;
            if (takes != m.getParameterCount() || row.find()) {
                notSo(m.getName(), "its row is not as the call is, or there are two");
            }
        }
    }
}
