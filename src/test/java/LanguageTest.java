import java.lang.management.ManagementFactory;
import java.lang.reflect.Constructor;
import java.lang.reflect.Field;
import java.lang.reflect.Method;
import java.lang.reflect.Modifier;
import java.nio.file.Files;
import java.nio.file.Path;
import java.util.List;
import java.util.Map;
import java.util.Set;
import java.util.TreeMap;
import java.util.TreeSet;
import java.util.regex.Matcher;
import java.util.regex.Pattern;

/** What of ../shared/LANGUAGE.md can be seen from outside: the face, words that are ruled out, objects that calls make. */
public final class LanguageTest {
    private static final Set<String> FACE = new TreeSet<>(List.of("write(int)", "wipe()", "fault()", "lay()",
            "land(int,int,int)", "strip(int,int)", "inches(int)", "damp(int)", "against(int)", "push(int,int)",
            "chalk(int)", "pass(int)", "line(int)", "undo()", "ask(int,int,int)", "forget()", "meeting(int)",
            "shifts(int)", "most(int)", "hut(int)", "behind(int,int)", "worth(int,int)", "tells(int)",
            "slips(int,int,int,int,int)", "century(int,int,int)", "keep()", "back()", "count(int)"));
    private static int wrong = 0;

    public static void main(String[] args) throws Exception {
        face();
        insideClasses();
        words();
        methods();
        objects();
        System.out.println(wrong == 0 ? "LanguageTest: all is as the rules ask" : wrong + " rules are broken");
        if (wrong != 0) {
            System.exit(1);
        }
    }

    private static void rule(String told, boolean kept) {
        if (!kept) {
            wrong++;
            System.out.println("not so: " + told);
        }
    }

    private static String signature(Method m) {
        StringBuilder s = new StringBuilder(m.getName()).append('(');
        for (Class<?> c : m.getParameterTypes()) {
            s.append(s.charAt(s.length() - 1) == '(' ? "" : ",").append(c.getName());
        }
        return s.append(')').toString();
    }

    private static void face() {
        Class<?> c = SlideLand.class;
        rule("the class is public and final", Modifier.isPublic(c.getModifiers()) && Modifier.isFinal(c.getModifiers()));
        Set<String> methods = new TreeSet<>();
        for (Method m : c.getDeclaredMethods()) {
            if (!Modifier.isPrivate(m.getModifiers())) {
                methods.add(signature(m));
                rule(m + " answers an int, of an object", m.getReturnType() == int.class
                        && Modifier.isPublic(m.getModifiers()) && !Modifier.isStatic(m.getModifiers()));
            }
        }
        rule("the methods are those of the document: " + methods, methods.equals(FACE));
        Constructor<?>[] constructors = c.getDeclaredConstructors();
        rule("one public constructor of nothing", constructors.length == 1
                && constructors[0].getParameterCount() == 0 && Modifier.isPublic(constructors[0].getModifiers()));
        Set<String> constants = new TreeSet<>();
        for (Field f : c.getDeclaredFields()) {
            if (!Modifier.isPrivate(f.getModifiers())) {
                constants.add(f.getName());
            }
        }
        rule("the constants are those of the document", constants.equals(Set.of("BAD", "NO", "FULL", "NONE")));
        rule("a class has some twenty fields", objectFields(c) <= 20);
    }

    private static int objectFields(Class<?> c) {
        int n = 0;
        for (Field f : c.getDeclaredFields()) {
            if (Modifier.isStatic(f.getModifiers())) {
                rule(f + " is final", Modifier.isFinal(f.getModifiers()));
            } else {
                n++;
            }
        }
        return n;
    }

    private static void insideClasses() {
        Class<?>[] inside = SlideLand.class.getDeclaredClasses();
        rule("some twelve classes", inside.length <= 11);
        for (Class<?> c : inside) {
            rule(c + " is private and static", Modifier.isPrivate(c.getModifiers()) && Modifier.isStatic(c.getModifiers()));
            rule(c + " has some twenty fields", objectFields(c) <= 20);
            for (Method m : c.getDeclaredMethods()) {
                rule(m + " bears a name of its own", FACE.stream().noneMatch(f -> f.startsWith(m.getName() + "(")));
            }
        }
        for (Method m : SlideLand.class.getDeclaredMethods()) {
            rule(m + " bears a name of its own", !Modifier.isPrivate(m.getModifiers())
                    || FACE.stream().noneMatch(f -> f.startsWith(m.getName() + "(")));
            rule(m + " takes seven parameters at most", m.getParameterCount() <= 7);
        }
    }

    private static void words() throws Exception {
        String source = Files.readString(Path.of("src/main/java/SlideLand.java"));
        String code = source.replaceAll("(?s)/\\*.*?\\*/", " ").replaceAll("//[^\n]*", " ")
                .replaceAll("\"[^\"\n]*\"", "\"\"");
        String out = "\\b(import|package|throw|throws|try|catch|finally|synchronized|assert|float|double|enum|record"
                + "|System|Object|instanceof|protected|while)\\b|->|::|\\bstatic\\s*\\{|Exact\\b|\"\\s*\\+|\\+\\s*\"";
        Matcher m = Pattern.compile(out).matcher(code);
        while (m.find()) {
            rule("no " + m.group(), false);
        }
        for (int i = 0; i < source.length(); i++) {
            rule("signs 10 and 32 to 126 alone", source.charAt(i) == 10 || source.charAt(i) >= 32 && source.charAt(i) < 127);
        }
    }

    /** How long methods are and how deep calls go; methods of one name in unlike classes are taken as one, the deeper. */
    private static void methods() throws Exception {
        String source = Files.readString(Path.of("src/main/java/SlideLand.java"));
        String code = source.replaceAll("(?s)/\\*.*?\\*/", "").replaceAll("//[^\n]*", "");
        Pattern head = Pattern.compile("\n {4,8}(?:public |private )?(?:static )?(?:int|boolean|void) (\\w+)\\([^()]*\\) \\{");
        Map<String, StringBuilder> bodies = new TreeMap<>();
        Matcher m = head.matcher(code);
        while (m.find()) {
            String body = code.substring(m.end(), endOfBody(code, m.end()));
            rule(m.group(1) + " has some sixty lines at most", body.split("\n").length <= 60);
            bodies.computeIfAbsent(m.group(1), name -> new StringBuilder()).append(body);
        }
        rule("the methods were found: " + bodies.keySet(), bodies.size() > 60);
        for (String name : bodies.keySet()) {
            int deep = depth(name, bodies, new TreeSet<>());
            rule("calls of " + name + " go eight deep at most, not " + deep, deep <= 8);
        }
    }

    private static int endOfBody(String code, int from) {
        int open = 1;
        int i = from;
        while (i < code.length() && open > 0) {
            open += code.charAt(i) == '{' ? 1 : code.charAt(i) == '}' ? -1 : 0;
            i++;
        }
        return i;
    }

    private static int depth(String name, Map<String, StringBuilder> bodies, Set<String> open) {
        if (!open.add(name)) {
            rule("no recursion: " + name + " in " + open, false);
            return 1;
        }
        int deepest = 0;
        Matcher call = Pattern.compile("\\b(\\w+)\\(").matcher(bodies.get(name));
        while (call.find()) {
            if (bodies.containsKey(call.group(1))) {
                deepest = Math.max(deepest, depth(call.group(1), bodies, open));
            }
        }
        open.remove(name);
        return deepest + 1;
    }

    /** All calls of a run share one room: only a new object may make objects. */
    private static void objects() {
        com.sun.management.ThreadMXBean meter =
                (com.sun.management.ThreadMXBean) ManagementFactory.getThreadMXBean();
        SlideLand x = new SlideLand();
        everyCall(x);
        meter.getCurrentThreadAllocatedBytes();
        long ahead = meter.getCurrentThreadAllocatedBytes();
        everyCall(x);
        everyCall(x);
        long made = meter.getCurrentThreadAllocatedBytes() - ahead;
        rule("no call makes objects (of " + made + " bytes)", made < 200);
    }

    private static void everyCall(SlideLand x) {
        String text = "u5;l5;s0,5,9;s3,7,9;p1;p2;d0;d1;";
        x.wipe();
        for (int i = 0; i < text.length(); i++) {
            x.write(text.charAt(i));
        }
        x.fault();
        x.lay();
        x.ask(1, 0, 0);
        x.push(1, 0);
        x.chalk(1);
        x.pass(2);
        x.line(5);
        x.keep();
        for (int i = 0; i < 12; i++) {
            x.push(0, i % 2);
        }
        x.land(0, 0, 0);
        x.strip(0, 3);
        x.inches(0);
        x.damp(7);
        x.against(0);
        x.meeting(-1);
        x.shifts(0);
        x.most(0);
        x.hut(0);
        x.behind(40, 0);
        x.worth(20, 0);
        x.tells(0);
        x.slips(0, 1, 8, 3, 1);
        x.century(5, 60, 0);
        x.undo();
        x.back();
        x.forget();
        x.count(9);
    }
}
