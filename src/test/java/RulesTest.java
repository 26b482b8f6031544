import java.io.IOException;
import java.lang.management.ManagementFactory;
import java.lang.reflect.Constructor;
import java.lang.reflect.Field;
import java.lang.reflect.Method;
import java.lang.reflect.Modifier;
import java.nio.file.Files;
import java.nio.file.Path;
import java.util.ArrayList;
import java.util.Arrays;
import java.util.HashMap;
import java.util.List;
import java.util.Map;
import java.util.TreeSet;
import java.util.regex.Matcher;
import java.util.regex.Pattern;
import java.util.stream.Collectors;
import java.util.stream.Stream;

/**
 * The face against the document, and the rules of LANGUAGE.md that a test can see.
 * Arguments: the class's source, the document.
 */
public final class RulesTest {

    public static void main(String[] args) throws IOException {
        String source = Files.readString(Path.of(args[0]));
        String document = Files.readString(Path.of(args[1]));
        faceIsThatOfTheDocument(document);
        callsStandUnderTheirHeadings(document, source);
        nothingElseIsVisible();
        staticFieldsAreConstants();
        sourceKeepsToTheLanguage(source);
        methodsAreShort(source);
        callsGoNoDeeperThanEight(source);
        callsMakeNothing();
        objectsAreSmall();
        Checks.end();
    }

    // ---- the face

    private static void faceIsThatOfTheDocument(String document) {
        Checks.begin("the face");
        TreeSet<String> want = new TreeSet<>();
        Matcher lines = Pattern.compile("(?m)^    (public .*);$").matcher(document);
        while (lines.find()) {
            String[] parts = lines.group(1).replace(", ", ",").split("(?= throws )");
            want.add(parts[0].replaceAll("(\\w+) \\w+(?=[,)])", "$1") + (parts.length > 1 ? parts[1] : ""));
        }
        TreeSet<String> got = new TreeSet<>();
        for (Constructor<?> constructor : RibbonQuarry.class.getConstructors()) {
            got.add("public RibbonQuarry" + parameters(constructor.getParameterTypes()));
        }
        for (Method method : RibbonQuarry.class.getDeclaredMethods()) {
            if (Modifier.isPublic(method.getModifiers())) {
                got.add("public " + method.getReturnType() + " " + method.getName()
                        + parameters(method.getParameterTypes()) + exceptions(method));
            }
        }
        Checks.due(true, want.size() > 1);
        TreeSet<String> common = new TreeSet<>(want);
        common.retainAll(got);
        want.removeAll(common);
        got.removeAll(common);
        Checks.due(new TreeSet<String>(), want);
        Checks.due(new TreeSet<String>(), got);
    }

    private static void callsStandUnderTheirHeadings(String document, String source) {
        Checks.begin("what the interface says ahead of calls");
        Matcher headings = Pattern.compile("Ahead of the calls (.*) the interface says: (---- .*)\\.").matcher(document);
        int found = 0;
        while (headings.find()) {
            found++;
            String[] parts = source.split("\n    // " + Pattern.quote(headings.group(2)) + "\n", -1);
            Checks.due(2, parts.length);
            String under = parts[parts.length - 1].split("// ---- ")[0];
            for (String name : headings.group(1).replaceAll("[`,]", "").split(" ")) {
                Checks.due(name + " 1", name + " " + count(under, "\\bpublic \\w+ " + name + "\\("));
            }
        }
        Checks.due(8, found);
    }

    private static String parameters(Class<?>[] types) {
        return Arrays.stream(types).map(Class::getSimpleName).collect(Collectors.joining(",", "(", ")"));
    }

    private static String exceptions(Method method) {
        String names = Arrays.stream(method.getExceptionTypes()).map(Class::getSimpleName)
                .collect(Collectors.joining(","));
        return names.isEmpty() ? "" : " throws " + names;
    }

    // ---- LANGUAGE.md

    private static void nothingElseIsVisible() {
        Checks.begin("rule 1");
        Checks.due(Modifier.PUBLIC | Modifier.FINAL, RibbonQuarry.class.getModifiers());
        TreeSet<String> face = new TreeSet<>();
        TreeSet<String> others = new TreeSet<>();
        for (Method method : RibbonQuarry.class.getDeclaredMethods()) {
            (Modifier.isPublic(method.getModifiers()) ? face : others).add(method.getName());
            int modifiers = method.getModifiers();
            Checks.due(true, Modifier.isPublic(modifiers) || Modifier.isPrivate(modifiers));
        }
        for (Field field : RibbonQuarry.class.getDeclaredFields()) {
            Checks.due(true, Modifier.isPrivate(field.getModifiers()));
        }
        for (Class<?> inside : RibbonQuarry.class.getDeclaredClasses()) {
            Checks.due(true, Modifier.isPrivate(inside.getModifiers()) && Modifier.isStatic(inside.getModifiers()));
            for (Method method : inside.getDeclaredMethods()) {
                others.add(method.getName());
            }
        }
        others.retainAll(face);
        Checks.due(new TreeSet<String>(), others);
    }

    private static List<Class<?>> classes() {
        List<Class<?>> classes = new ArrayList<>(List.of(RibbonQuarry.class.getDeclaredClasses()));
        classes.add(RibbonQuarry.class);
        return classes;
    }

    private static void staticFieldsAreConstants() {
        Checks.begin("rules 5 and 11");
        Checks.due(true, classes().size() <= 12);
        for (Class<?> each : classes()) {
            int fields = 0;
            for (Field field : each.getDeclaredFields()) {
                if (Modifier.isStatic(field.getModifiers())) {
                    Checks.due(true, Modifier.isFinal(field.getModifiers()));
                } else {
                    fields++;
                }
            }
            Checks.due(true, fields <= 20);
            for (Method method : each.getDeclaredMethods()) {
                Checks.due(true, method.getParameterCount() <= 7);
            }
        }
    }

    private static void sourceKeepsToTheLanguage(String source) {
        Checks.begin("rules 3 to 10");
        String code = source.replaceAll("(?s)/\\*.*?\\*/", "").replaceAll("//[^\n]*", "");
        for (String word : List.of("try", "catch", "finally", "synchronized", "assert", "package", "protected",
                "Exact", "toString", "hashCode", "Random", "Thread", "Math\\.[a-z]*Exact", "getMessage")) {
            Checks.due(word + " 0", word + " " + count(code, "\\b" + word + "\\b"));
        }
        Checks.due(0, count(code, "->|::|\\bstatic\\s*\\{"));
        Checks.due(1, count(code, "\\bimport\\b"));
        Checks.due(count(code, "\\bSystem\\b"), count(code, "\\bSystem\\.arraycopy\\("));
        Checks.due(0, count(source, "[^\\x0a\\x20-\\x7e]"));
    }

    private static int count(String text, String pattern) {
        return (int) Pattern.compile(pattern).matcher(text).results().count();
    }

    private static void methodsAreShort(String source) {
        Checks.begin("rule 11");
        int length = 0;
        for (String line : source.split("\n")) {
            boolean isClass = line.contains(" class ");
            boolean begins = line.matches("( {4}| {8})(public|private) .*\\(.*") && !line.endsWith(";");
            length = isClass || begins ? 0 : length + 1;
            Checks.due(true, length <= 60 || !line.matches("( {4}| {8})}"));
        }
    }

    /** Methods of the same name count as one, so the depth found is at least the true one. */
    private static void callsGoNoDeeperThanEight(String source) {
        Checks.begin("rule 11, how deep calls go");
        Map<String, String> bodies = new HashMap<>();
        Matcher methods = Pattern.compile("(?ms)^( {4}| {8})(?:public|private) [^=;{]*?(\\w+)\\([^{;]*\\{\n(.*?)^\\1}")
                .matcher(source);
        while (methods.find()) {
            bodies.merge(methods.group(2), methods.group(3), String::concat);
        }
        Checks.due(true, bodies.size() > 100);
        for (String method : bodies.keySet()) {
            String chain = longestChain(method, bodies, 1);
            int depth = chain.split(" ").length;
            Checks.due(chain + " true", chain + " " + (depth <= 8));
        }
    }

    /** A method that calls itself would go on to the twentieth call. */
    private static String longestChain(String method, Map<String, String> bodies, int depth) {
        String longest = "";
        Matcher calls = Pattern.compile("(\\w+)\\(").matcher(depth < 20 ? bodies.get(method) : "");
        TreeSet<String> called = new TreeSet<>();
        while (calls.find()) {
            if (bodies.containsKey(calls.group(1)) && called.add(calls.group(1))) {
                String chain = " " + longestChain(calls.group(1), bodies, depth + 1);
                longest = chain.split(" ").length > longest.split(" ").length ? chain : longest;
            }
        }
        return method + longest;
    }

    // ---- the room for objects

    private static long allocatedBytes() {
        return ((com.sun.management.ThreadMXBean) ManagementFactory.getThreadMXBean()).getCurrentThreadAllocatedBytes();
    }

    private static RibbonQuarry filled() {
        RibbonQuarry quarry = new RibbonQuarry();
        for (int reel = 0; reel < 4; reel++) {
            for (int position = 0; position < 60; position++) {
                quarry.append(reel, 99, position % 8);
            }
        }
        return quarry;
    }

    private static long dearCalls(RibbonQuarry quarry) {
        long sum = 0;
        for (int round = 0; round < 7; round++) {
            sum += quarry.exchange(0, 1) + quarry.flip(0, 0, 59) + quarry.dye(1, 0, 59, 3) + quarry.undo();
            sum += quarry.describeReel(0) + quarry.segmentAtRank(2, 59) + quarry.colourAtRank(3, 7);
            sum += quarry.type('s') + quarry.type('w') + quarry.type('a') + quarry.type('p') + quarry.type(' ');
            sum += quarry.type('0') + quarry.type('1') + quarry.run() + quarry.save() + quarry.restore();
            sum += quarry.isConsistent() ? quarry.totalLength() : 0;
        }
        return sum;
    }

    private static void callsMakeNothing() {
        Checks.begin("rule 12");
        RibbonQuarry quarry = filled();
        dearCalls(quarry);
        long before = allocatedBytes();
        dearCalls(quarry);
        long made = allocatedBytes() - before;
        Checks.due("under 20000 bytes", made < 20000 ? "under 20000 bytes" : made + " bytes");
    }

    private static void objectsAreSmall() {
        Checks.begin("rule 12");
        RibbonQuarry[] quarries = new RibbonQuarry[500];
        long before = allocatedBytes();
        for (int index = 0; index < quarries.length; index++) {
            quarries[index] = new RibbonQuarry();
        }
        long each = (allocatedBytes() - before) / quarries.length;
        Checks.due(500L, Stream.of(quarries).filter(q -> q.save() == 0).count());
        Checks.due("under 20000 bytes", each < 20000 ? "under 20000 bytes" : each + " bytes");
    }
}
