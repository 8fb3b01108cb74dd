import java.io.ByteArrayOutputStream;
import java.io.File;
import java.io.PrintStream;
import java.lang.reflect.Constructor;
import java.lang.reflect.Field;
import java.lang.reflect.Method;
import java.lang.reflect.Modifier;
import java.nio.file.Files;
import java.nio.file.Path;
import java.util.ArrayList;
import java.util.HashMap;
import java.util.HashSet;
import java.util.List;
import java.util.Map;
import java.util.Set;
import java.util.TreeSet;
import java.util.regex.Matcher;
import java.util.regex.Pattern;
import java.util.spi.ToolProvider;
import java.util.stream.Collectors;

/** Holds src/main/java/VisitingHours.java against ../shared/LANGUAGE.md, as far as that can be read off. Arguments: the source, DOC.md, the classes. */
public final class LanguageTest {
    private static final Checks T = new Checks("LanguageTest");

    public static void main(String[] args) throws Exception {
        String source = Files.readString(Path.of(args[0]));
        String bare = bare(source);
        face(Files.readString(Path.of(args[1])));
        words(bare);
        constructors(bare);
        methods(bare);
        members();
        depths(new File(args[2]));
        T.end();
    }

    /** The source without comments and without what stands in texts and signs. */
    private static String bare(String source) {
        StringBuilder s = new StringBuilder();
        Matcher m = Pattern.compile("/\\*.*?\\*/|//[^\n]*|\"(?:[^\"\\\\]|\\\\.)*\"|'(?:[^'\\\\]|\\\\.)'", Pattern.DOTALL).matcher(source);
        int from = 0;
        while (m.find()) {
            s.append(source, from, m.start());
            String found = m.group();
            if (found.startsWith("/")) s.append(found.replaceAll("[^\n]", ""));
            else s.append(found.startsWith("\"") ? "\"\"" : "' '");
            from = m.end();
        }
        return s.append(source.substring(from)).toString();
    }

    private static void face(String doc) {
        T.about("rule 1");
        Set<String> due = new TreeSet<>();
        Matcher m = Pattern.compile("    public (?!static)(\\w+) (\\w+)\\((.*?)\\)(?: throws (.*?))?;").matcher(doc);
        while (m.find()) {
            String types = List.of(m.group(3).split(",")).stream().map(p -> p.trim().split(" ")[0]).collect(Collectors.joining(","));
            String thrown = m.group(4) == null ? "" : m.group(4).replace(" ", "");
            due.add(m.group(1) + " " + m.group(2) + "(" + types + ") " + thrown);
        }
        Set<String> is = new TreeSet<>();
        Set<String> names = new HashSet<>();
        for (Method method : VisitingHours.class.getDeclaredMethods()) {
            if (Modifier.isPublic(method.getModifiers())) {
                names.add(method.getName());
                is.add(method.getReturnType() + " " + method.getName() + "("
                    + List.of(method.getParameterTypes()).stream().map(Class::toString).collect(Collectors.joining(",")) + ") "
                    + List.of(method.getExceptionTypes()).stream().map(Class::getSimpleName).collect(Collectors.joining(",")));
            }
        }
        T.due("the face", is, due);
        T.due("its methods", due.size(), 53);
        for (Class<?> c : classes()) {
            for (Method method : c.getDeclaredMethods()) {
                boolean own = c == VisitingHours.class && Modifier.isPublic(method.getModifiers());
                if (!own) T.due("a method inside named " + method.getName(), names.contains(method.getName()), false);
            }
        }
    }

    private static List<Class<?>> classes() {
        List<Class<?>> all = new ArrayList<>();
        all.add(VisitingHours.class);
        all.addAll(List.of(VisitingHours.class.getDeclaredClasses()));
        return all;
    }

    private static void words(String bare) {
        T.about("rules 3 to 10");
        String[] none = {"->", "::", "\\btry\\b", "\\bcatch\\b", "\\bfinally\\b", "\\bsynchronized\\b", "\\bassert\\b", "\\bprotected\\b",
            "\\bvolatile\\b", "\\btransient\\b", "\\bvar\\b", "\\bObject\\b", "Exact\\b", "\\bSystem\\.(?!arraycopy)", "\\bThread\\b", "\\bpackage\\b",
            "\\bLong\\b", "\\bDouble\\b", "\\bfloat\\b", "\\bdouble\\b", "\\bequals\\b", "hashCode", "toString", "\"\" \\+|\\+ \"\"", "\\[\\]\\[\\]",
            "\\bextends\\b", "\\bimplements\\b", "\\bMath\\.(?!min\\(|max\\()", "\\bInteger\\.(?!bitCount\\()", "@"};
        for (String word : none) T.due(word, Pattern.compile(word).matcher(bare).find(), false);
        T.due("imports", Pattern.compile("import .*").matcher(bare).results().map(r -> r.group()).collect(Collectors.toList()),
            List.of("import java.util.NoSuchElementException;"));
        Matcher m = Pattern.compile("\\bthrow\\b[^;]*;").matcher(bare);
        while (m.find()) {
            T.due(m.group(), m.group().matches("throw new (IllegalState|IllegalArgument|IndexOutOfBounds|UnsupportedOperation|NoSuchElement)Exception\\(\"\"\\);"), true);
        }
        T.due("signs", bare.chars().allMatch(c -> c == '\n' || c >= 32 && c < 127), true);
    }

    private static void constructors(String bare) {
        T.about("rule 6");
        Matcher m = Pattern.compile("\n +(?:public )?[A-Z]\\w*\\([^)]*\\) \\{(.*?)\n( {4}| {8})\\}", Pattern.DOTALL).matcher(bare);
        int found = 0;
        while (m.find()) {
            found++;
            T.due("a throw in a constructor", m.group(1).contains("throw"), false);
        }
        T.due("constructors were found", found > 0, true);
    }

    private static void methods(String bare) {
        T.about("rule 11");
        Matcher m = Pattern.compile("\n( {4}| {8})(?:[\\w\\[\\]]+ )+(\\w+)\\([^)]*\\)[^{;\n]*\\{.*?\n\\1\\}", Pattern.DOTALL).matcher(bare);
        int found = 0;
        while (m.find()) {
            found++;
            long lines = m.group().lines().count() - 1;
            T.due("length of " + m.group(2) + " (" + lines + ")", lines <= 60, true);
        }
        T.due("methods were found", found > 150, true);
    }

    private static void members() {
        T.about("rules 1, 2, 5, 11");
        T.due("classes", classes().size() <= 12, true);
        T.due("final", Modifier.isFinal(VisitingHours.class.getModifiers()), true);
        for (Class<?> c : classes()) {
            boolean outer = c == VisitingHours.class;
            if (!outer) T.due(c.getName() + " is static", Modifier.isStatic(c.getModifiers()) && !Modifier.isPublic(c.getModifiers()), true);
            int fields = 0;
            for (Field f : c.getDeclaredFields()) {
                boolean constant = Modifier.isStatic(f.getModifiers());
                fields += constant ? 0 : 1;
                if (constant) T.due(f + " is a constant", Modifier.isFinal(f.getModifiers()) && f.getType().isPrimitive(), true);
                boolean open = f.getName().equals("NONE");
                if (outer) T.due(f + " is private", Modifier.isPrivate(f.getModifiers()), !open);
            }
            T.due(c.getName() + " has " + fields + " fields", fields <= 20, true);
            for (Method m : c.getDeclaredMethods()) {
                T.due(m + " takes few", m.getParameterCount() <= 7, true);
                if (outer) T.due(m + " is private or public", Modifier.isPrivate(m.getModifiers()) || Modifier.isPublic(m.getModifiers()), true);
            }
            for (Constructor<?> m : c.getDeclaredConstructors()) T.due(m + " takes few", m.getParameterCount() <= 7, true);
        }
    }

    private static final Map<String, Set<String>> CALLS = new HashMap<>();
    private static final Map<String, Integer> DEEP = new HashMap<>();

    /** What calls what, read off the classes: how deep calls go, those that call one another in a ring counted once. */
    private static void depths(File classes) {
        T.about("rule 11");
        ToolProvider javap = ToolProvider.findFirst("javap").orElse(null);
        if (javap == null) {
            System.out.println("LanguageTest: without javap the depth of calls is not looked at");
            return;
        }
        for (String file : classes.list((d, name) -> name.matches("VisitingHours(\\$\\w+)?\\.class"))) {
            ByteArrayOutputStream out = new ByteArrayOutputStream();
            javap.run(new PrintStream(out), System.err, "-c", "-p", new File(classes, file).getPath());
            readCalls(file.replace(".class", ""), out.toString());
        }
        T.due("calls were found", CALLS.size() > 150, true);
        for (Method m : VisitingHours.class.getDeclaredMethods()) {
            if (Modifier.isPublic(m.getModifiers())) {
                int deep = deep("VisitingHours." + m.getName(), new ArrayList<>());
                T.due(m.getName() + " goes " + deep + " deep", deep <= 8, true);
            }
        }
    }

    private static void readCalls(String name, String code) {
        String method = null;
        for (String line : code.split("\n")) {
            Matcher head = Pattern.compile("^  (?:[\\w$.\\[\\]]+ )*([\\w$.<>]+)\\(.*\\).*;$").matcher(line);
            if (head.find()) {
                String simple = head.group(1).substring(head.group(1).lastIndexOf('.') + 1);
                method = name + "." + (simple.equals(name) ? "<init>" : simple);
                CALLS.putIfAbsent(method, new HashSet<>());
            }
            Matcher call = Pattern.compile("// (?:Interface)?Method (?:([\\w/$]+)\\.)?\"?([\\w<>]+)\"?:").matcher(line);
            if (method != null && call.find()) {
                CALLS.get(method).add((call.group(1) == null ? name : call.group(1)) + "." + call.group(2));
            }
        }
    }

    private static int deep(String method, List<String> open) {
        if (DEEP.containsKey(method)) return DEEP.get(method);
        int most = 0;
        boolean ring = false;
        open.add(method);
        for (String called : CALLS.getOrDefault(method, Set.of())) {
            if (open.contains(called)) ring = true;
            else most = Math.max(most, deep(called, open));
        }
        open.remove(method);
        if (!ring && open.isEmpty()) DEEP.put(method, most + 1);
        return most + 1;
    }
}
