import java.io.IOException;
import java.io.PrintWriter;
import java.io.StringWriter;
import java.lang.reflect.Constructor;
import java.lang.reflect.Executable;
import java.lang.reflect.Field;
import java.lang.reflect.Method;
import java.lang.reflect.Modifier;
import java.nio.charset.StandardCharsets;
import java.nio.file.Files;
import java.nio.file.Path;
import java.util.ArrayDeque;
import java.util.ArrayList;
import java.util.Deque;
import java.util.HashSet;
import java.util.List;
import java.util.Map;
import java.util.Optional;
import java.util.Set;
import java.util.TreeMap;
import java.util.TreeSet;
import java.util.regex.Matcher;
import java.util.regex.Pattern;
import java.util.spi.ToolProvider;

/** The rules of ../shared/LANGUAGE.md that can be counted: the face, the library, static fields, sizes, depth of calls. */
final class LanguageTest {
    private static final String FACE = "feed end load place scan power input look force watchdog clear task value poke variable field find"
            + " trace event count sum cut work tell";
    private static final Set<String> LIBRARY = Set.of("String.length", "String.charAt", "String.isEmpty", "String.equals", "String.indexOf",
            "String.substring", "String.toCharArray", "Arrays.copyOf", "Arrays.copyOfRange", "Arrays.fill", "System.arraycopy", "Math.max",
            "Math.min", "Math.abs", "Math.floorMod", "Math.floorDiv", "Integer.bitCount", "Long.bitCount", "Integer.compare", "Long.compare");
    private static final Set<String> THROWN = Set.of("IllegalStateException", "IllegalArgumentException", "IndexOutOfBoundsException",
            "ArithmeticException", "UnsupportedOperationException", "NoSuchElementException", "RuntimeException");
    private static final Path SOURCE = Path.of("src/main/java/SoftController.java");

    /** Whom each method calls, and the lines of the source that it has. */
    private static final Map<String, Set<String>> CALLS = new TreeMap<>();
    private static final Map<String, TreeSet<Integer>> LINES = new TreeMap<>();
    private static final Set<String> OUTSIDE = new TreeSet<>();

    public static void main(String[] args) throws Exception {
        face();
        classesInside();
        source();
        if (readCode()) {
            library();
            lengths();
            depth();
        }
        Checks.close("LanguageTest");
    }

    private static void face() {
        Set<String> due = new TreeSet<>(List.of(FACE.split(" ")));
        Set<String> got = new TreeSet<>();
        for (Method m : SoftController.class.getDeclaredMethods()) {
            if (Modifier.isPublic(m.getModifiers())) {
                got.add(m.getName());
                expect("a static method of the face: " + m, !Modifier.isStatic(m.getModifiers()));
            } else {
                expect("not private: " + m, Modifier.isPrivate(m.getModifiers()));
                expect("a private method with a public one's name: " + m, !due.contains(m.getName()));
            }
        }
        expect("the face is " + got, got.equals(due));
        for (Field f : SoftController.class.getDeclaredFields()) {
            expect("a field that can be seen: " + f, Modifier.isPrivate(f.getModifiers()) || f.getName().equals("NONE"));
        }
        expect("the class is public and final", Modifier.isPublic(SoftController.class.getModifiers())
                && Modifier.isFinal(SoftController.class.getModifiers()));
        expect("one public constructor", SoftController.class.getConstructors().length == 1);
        Checks.same("NONE", SoftController.NONE, -1);
    }

    private static void classesInside() {
        Class<?>[] inside = SoftController.class.getDeclaredClasses();
        expect("at most twelve classes", inside.length + 1 <= 12);
        List<Class<?>> all = new ArrayList<>(List.of(inside));
        all.add(SoftController.class);
        for (Class<?> one : all) {
            expect(one + " is static", one == SoftController.class || Modifier.isStatic(one.getModifiers()));
            expect(one + " is not public", one == SoftController.class || !Modifier.isPublic(one.getModifiers()));
            int own = 0;
            for (Field f : one.getDeclaredFields()) {
                boolean isStatic = Modifier.isStatic(f.getModifiers());
                own += isStatic ? 0 : 1;
                expect("a static field that may change: " + f, !isStatic || Modifier.isFinal(f.getModifiers()));
            }
            expect(one + " has " + own + " fields", own <= 20);
            List<Executable> routines = new ArrayList<>(List.of(one.getDeclaredMethods()));
            routines.addAll(List.of((Constructor<?>[]) one.getDeclaredConstructors()));
            for (Executable m : routines) {
                expect("more than seven parameters: " + m, m.getParameterCount() <= 7);
                expect("made by the compiler: " + m, !m.isSynthetic());
            }
        }
    }

    private static void source() throws IOException {
        String text = Files.readString(SOURCE, StandardCharsets.ISO_8859_1);
        for (String word : List.of("package ", "->", "::", "finally", "synchronized", "assert ", "getMessage", "static {", "Exact(")) {
            expect("the source has " + word, !text.contains(word));
        }
        for (int i = 0; i < text.length(); i++) {
            if (text.charAt(i) > 126) {
                expect("the source has the byte " + (int) text.charAt(i), false);
            }
        }
        expect("a field of the library", !Pattern.compile("\\b(Integer|Long|Math|Byte|Short|Character)\\.[A-Z]").matcher(text).find());
        Matcher thrown = Pattern.compile("throw new (\\w+)\\((.*?)\\);").matcher(text);
        while (thrown.find()) {
            expect("throws " + thrown.group(), THROWN.contains(thrown.group(1)) && thrown.group(2).matches("|\"[^\"]*\""));
        }
        expect("every throw makes its exception", text.split("\\bthrow ").length == text.split("\\bthrow new ").length);
    }

    /** Reads what javap tells of the class; false where there is no javap. */
    private static boolean readCode() throws Exception {
        Optional<ToolProvider> javap = ToolProvider.findFirst("javap");
        if (javap.isEmpty()) {
            System.out.println("there is no javap here: calls are not counted");
            return false;
        }
        Path classes = Path.of(SoftController.class.getProtectionDomain().getCodeSource().getLocation().toURI());
        List<String> words = new ArrayList<>(List.of("-p", "-c", "-l", "-cp", classes.toString(), "SoftController"));
        for (Class<?> inside : SoftController.class.getDeclaredClasses()) {
            words.add(inside.getName());
        }
        StringWriter told = new StringWriter();
        PrintWriter to = new PrintWriter(told);
        int answer = javap.get().run(to, to, words.toArray(new String[0]));
        expect("javap answers " + answer, answer == 0);
        readTold(told.toString());
        expect("there are calls", CALLS.size() > 100);
        return true;
    }

    private static void readTold(String told) {
        Pattern ofClass = Pattern.compile("^(?:[a-z]+ )*class (\\S+).*\\{$");
        Pattern ofMethod = Pattern.compile("^  (?:\\S+ )*?([\\w$]+)\\(.*\\).*;$");
        Pattern ofCall = Pattern.compile("invoke\\w+ .*// (?:Interface)?Method (?:([\\w$/]+)\\.)?\"?([\\w<>]+)\"?:");
        Pattern ofLine = Pattern.compile("^ +line (\\d+): \\d+$");
        String in = "";
        String method = "";
        for (String line : told.split("\n")) {
            Matcher m = ofClass.matcher(line);
            if (m.find()) {
                in = m.group(1);
                continue;
            }
            m = ofMethod.matcher(line);
            boolean constants = line.equals("  static {};");
            if (constants || m.find()) {
                method = in + "." + (constants ? "<clinit>" : m.group(1).equals(in) ? "<init>" : m.group(1));
                CALLS.put(method, new TreeSet<>());
                LINES.put(method, new TreeSet<>());
                continue;
            }
            m = ofCall.matcher(line);
            if (m.find()) {
                String owner = m.group(1) == null ? in : m.group(1);
                (owner.startsWith("SoftController") ? CALLS.get(method) : OUTSIDE).add(owner + "." + m.group(2));
            }
            m = ofLine.matcher(line);
            if (m.find()) {
                LINES.get(method).add(Integer.parseInt(m.group(1)));
            }
        }
    }

    private static void library() {
        for (String call : OUTSIDE) {
            String plain = call.substring(call.lastIndexOf('/') + 1);
            boolean makes = plain.endsWith(".<init>");
            boolean known = makes ? THROWN.contains(plain.substring(0, plain.length() - 7)) || plain.equals("Object.<init>")
                    : LIBRARY.contains(plain) || plain.equals("StringBuilder.append");
            expect("the library's " + call, known);
        }
    }

    private static void lengths() {
        for (Map.Entry<String, TreeSet<Integer>> m : LINES.entrySet()) {
            // Fields that are made in their own lines count as lines of the constructor, and constants of the class.
            if (!m.getKey().endsWith("init>") && !m.getValue().isEmpty()) {
                int lines = m.getValue().last() - m.getValue().first() + 1;
                expect(m.getKey() + " has " + lines + " lines", lines <= 60);
            }
        }
    }

    /** Calls that are no recursion go at most eight deep. */
    private static void depth() {
        Map<String, Set<String>> reached = new TreeMap<>();
        for (String method : CALLS.keySet()) {
            reached.put(method, reachedFrom(method));
        }
        Map<String, Integer> depths = new TreeMap<>();
        for (String method : CALLS.keySet()) {
            List<String> chain = new ArrayList<>();
            int deep = deepest(method, reached, depths);
            if (deep > 8) {
                chainFrom(method, reached, depths, chain);
            }
            expect("calls go " + deep + " deep: " + chain, deep <= 8);
        }
    }

    private static Set<String> reachedFrom(String method) {
        Set<String> seen = new HashSet<>();
        Deque<String> open = new ArrayDeque<>(CALLS.get(method));
        while (!open.isEmpty()) {
            String next = open.pop();
            if (seen.add(next) && CALLS.containsKey(next)) {
                open.addAll(CALLS.get(next));
            }
        }
        return seen;
    }

    /** How deep calls go from a method on; those that are recursion do not count. */
    private static int deepest(String method, Map<String, Set<String>> reached, Map<String, Integer> depths) {
        Integer known = depths.get(method);
        if (known != null) {
            return known;
        }
        int below = 0;
        for (String ring : ringOf(method, reached)) {
            for (String next : CALLS.get(ring)) {
                if (CALLS.containsKey(next) && !reached.get(next).contains(method)) {
                    below = Math.max(below, deepest(next, reached, depths));
                }
            }
        }
        int deep = below + (reached.get(method).contains(method) ? 0 : 1);
        depths.put(method, deep);
        return deep;
    }

    /** The methods that call one another round and round with this one, and this one itself. */
    private static Set<String> ringOf(String method, Map<String, Set<String>> reached) {
        Set<String> ring = new TreeSet<>(Set.of(method));
        for (String other : reached.get(method)) {
            if (reached.containsKey(other) && reached.get(other).contains(method)) {
                ring.add(other);
            }
        }
        return ring;
    }

    private static void chainFrom(String method, Map<String, Set<String>> reached, Map<String, Integer> depths, List<String> chain) {
        chain.add(method);
        String deepest = null;
        for (String ring : ringOf(method, reached)) {
            for (String next : CALLS.get(ring)) {
                boolean further = CALLS.containsKey(next) && !reached.get(next).contains(method);
                if (further && (deepest == null || depths.get(next) > depths.get(deepest))) {
                    deepest = next;
                }
            }
        }
        if (deepest != null) {
            chainFrom(deepest, reached, depths, chain);
        }
    }

    private static void expect(String what, boolean holds) {
        Checks.same(what, holds, true);
    }
}
