import java.io.File;
import java.io.IOException;
import java.lang.reflect.Method;
import java.lang.reflect.Modifier;
import java.nio.file.Files;
import java.nio.file.Path;
import java.util.ArrayList;
import java.util.Comparator;
import java.util.List;
import java.util.regex.Matcher;
import java.util.regex.Pattern;
import java.util.stream.Collectors;
import java.util.stream.Stream;

/** Follows README.md word for word, in a copy of the project. Arguments: the project's folder and ../shared. */
public final class ReadmeTest {
    private static final Checks T = new Checks("ReadmeTest");
    private static final Pattern BLOCK = Pattern.compile("```(\\w+)\n(.*?)```", Pattern.DOTALL);
    private static final Pattern SAVED = Pattern.compile("Save this as `([\\w./]+)`");
    private static Path project;
    private static Path shared;

    public static void main(String[] args) throws Exception {
        project = Path.of(args[0]).toRealPath();
        shared = Path.of(args[1]).toRealPath();
        String page = Files.readString(project.resolve("README.md"));
        calls(page);
        tests(page);
        follow(page);
        T.end();
    }

    /** The page tells each call of the face, and none that is not there. */
    private static void calls(String page) {
        T.about("how to use the class");
        List<String> face = Stream.of(VisitingHours.class.getDeclaredMethods()).filter(m -> Modifier.isPublic(m.getModifiers()))
            .map(Method::getName).collect(Collectors.toList());
        List<String> told = new ArrayList<>();
        for (String line : page.split("\n")) {
            if (!line.startsWith("| `")) continue;
            Matcher m = Pattern.compile("`(\\w+)`").matcher(line.split("\\|")[1]);
            while (m.find()) told.add(m.group(1));
        }
        for (String name : face) T.due("a row of " + name, told.contains(name), true);
        T.due("calls told once", told.size(), face.size());
    }

    /** The page tells each file of tests, and .ci/run starts each that has a main method. */
    private static void tests(String page) throws IOException {
        T.about("how to run its tests");
        String run = Files.readString(project.resolve(".ci/run"));
        for (String file : new File(project.toFile(), "src/test/java").list()) {
            String name = file.replace(".java", "");
            T.due(name + " on the page", Pattern.compile("\\b" + name + "\\b").matcher(page).find(), true);
            boolean starts = Files.readString(project.resolve("src/test/java").resolve(file)).contains("public static void main(");
            if (starts) T.due(name + " in .ci/run", Pattern.compile("\\b" + name + "\\b").matcher(run).find(), true);
        }
    }

    private static void follow(String page) throws Exception {
        T.about("what the page says when it is followed");
        Matcher m = BLOCK.matcher(page);
        int from = 0;
        int ran = 0;
        Path copy = copied();
        String printed = null;
        while (m.find()) {
            String kind = m.group(1);
            if (kind.equals("java")) {
                save(copy, page.substring(from, m.start()), m.group(2));
            } else if (kind.equals("text")) {
                T.due("what is printed", printed, m.group(2));
            } else if (kind.equals("sh") && !m.group(2).contains(".ci/run")) {
                // each block of commands has to do by itself, with what was to be saved for it alone
                printed = run(copy, m.group(2));
                delete(copy.getParent());
                copy = copied();
                ran++;
            }
            from = m.end();
        }
        delete(copy.getParent());
        T.due("blocks of commands that were run", ran >= 3, true);
    }

    private static void save(Path copy, String ahead, String code) throws IOException {
        Matcher m = SAVED.matcher(ahead);
        boolean told = m.find();
        T.due("where the program is saved", told, true);
        if (!told) return;
        Path file = copy.resolve(m.group(1));
        Files.createDirectories(file.getParent());
        Files.writeString(file, code);
    }

    private static String run(Path copy, String commands) throws Exception {
        File out = new File(copy.getParent().toFile(), "printed");
        Process p = new ProcessBuilder("bash", "-e", "-c", commands).directory(copy.toFile()).redirectErrorStream(true).redirectOutput(out).start();
        int code = p.waitFor();
        String printed = Files.readString(out.toPath());
        T.due("the end of\n" + commands + printed, code, 0);
        return printed;
    }

    /** A new folder with the project as git keeps it, and shared beside it. */
    private static Path copied() throws IOException {
        Path folder = Files.createTempDirectory("readme");
        Path copy = Files.createDirectory(folder.resolve("main"));
        Files.createSymbolicLink(folder.resolve("shared"), shared);
        for (String part : new String[] {"README.md", ".ci", "src"}) {
            try (Stream<Path> all = Files.walk(project.resolve(part))) {
                for (Path one : all.collect(Collectors.toList())) Files.copy(one, copy.resolve(project.relativize(one)));
            }
        }
        return copy;
    }

    private static void delete(Path folder) throws IOException {
        try (Stream<Path> all = Files.walk(folder)) {
            for (Path one : all.sorted(Comparator.reverseOrder()).collect(Collectors.toList())) Files.delete(one);
        }
    }
}
