import java.io.IOException;
import java.lang.reflect.InvocationTargetException;
import java.lang.reflect.Method;
import java.lang.reflect.Modifier;
import java.net.URL;
import java.net.URLClassLoader;
import java.nio.file.Files;
import java.nio.file.Path;
import java.nio.file.StandardCopyOption;
import java.util.ArrayList;
import java.util.Comparator;
import java.util.List;
import java.util.Set;
import java.util.TreeSet;
import java.util.concurrent.Callable;
import java.util.regex.Matcher;
import java.util.regex.Pattern;
import java.util.stream.Stream;
import javax.tools.ToolProvider;

/** README.md holds: its calls answer what it says, what it names is there, and its command runs all tests. */
public final class ReadmeTest {
    private static final Pattern BLOCK = Pattern.compile("(?ms)^```(\\w*)\n(.*?)^```\n");
    private static final Pattern SHOWN = Pattern.compile("(x\\.(\\w+)\\(.*\\));\\s+// (throws )?([^:]+): \\S.*");
    private static final Path TESTS = Path.of("src/test/java");
    private static final List<String> NAMES = List.of("OneTest", "TwoTest", "Three", "Four");

    public static void main(String[] args) throws Exception {
        Check.part("README.md");
        String page = Files.readString(Path.of("README.md"));
        Path room = Files.createTempDirectory("readme");
        try {
            List<String> java = blocks(page, "java");
            calls(java, room);
            eachCallIsShown(java);
            names(BLOCK.matcher(page).replaceAll(""), java);
            command(blocks(page, "sh"), room);
        } finally {
            clear(room);
        }
        Check.end("README.md holds");
    }

    private static List<String> blocks(String page, String kind) {
        List<String> out = new ArrayList<>();
        Matcher m = BLOCK.matcher(page);
        while (m.find()) {
            if (!Set.of("java", "sh").contains(m.group(1))) {
                Check.tell("a block that is neither java nor sh: " + m.group());
            }
            if (m.group(1).equals(kind)) {
                out.add(m.group(2));
            }
        }
        return out;
    }

    private static void clear(Path room) throws IOException {
        try (Stream<Path> all = Files.walk(room)) {
            for (Path path : all.sorted(Comparator.reverseOrder()).toList()) {
                Files.delete(path);
            }
        }
    }

    // ---- calls, arguments and answers

    private static boolean isHelp(String block) {
        return Pattern.compile("(?m)^static ").matcher(block).find();
    }

    private static String run(List<String> blocks) {
        StringBuilder b = new StringBuilder();
        for (String block : blocks) {
            for (String line : isHelp(block) ? new String[0] : block.split("\n")) {
                Matcher m = SHOWN.matcher(line);
                if (m.matches()) {
                    b.append(checked(m));
                } else if (line.matches("BorrowedStones x = new BorrowedStones\\(\\);")) {
                    b.append(line).append('\n');
                } else {
                    Check.tell("a line of code without an answer: " + line);
                }
            }
        }
        return b.toString();
    }

    private static String checked(Matcher line) {
        String call = line.group(1);
        String want = line.group(4) + (line.group(3) == null ? "" : ".class");
        String quoted = call.replace("\\", "\\\\").replace("\"", "\\\"");
        return "ReadmeTest.shown(\"" + quoted + "\", " + want + ", () -> " + call + ");\n";
    }

    /** Compiles what README.md shows, as it stands there, and runs it, block behind block. */
    private static void calls(List<String> blocks, Path room) throws Exception {
        StringBuilder b = new StringBuilder("import java.util.NoSuchElementException;\npublic final class Shown {\n");
        b.append("private static final int NONE = BorrowedStones.NONE;\n");
        blocks.stream().filter(ReadmeTest::isHelp).forEach(b::append);
        b.append("public static void run() {\n").append(run(blocks)).append("}\n}\n");
        Path source = room.resolve("Shown.java");
        Files.writeString(source, b);
        int failed = ToolProvider.getSystemJavaCompiler().run(null, null, null, "-nowarn", "-encoding", "UTF-8",
            "-cp", System.getProperty("java.class.path"), "-d", room.toString(), source.toString());
        Check.due("compiling what is shown", failed, 0);
        if (failed != 0) {
            return;
        }
        try (URLClassLoader loader = new URLClassLoader(new URL[] {room.toUri().toURL()})) {
            loader.loadClass("Shown").getMethod("run").invoke(null);
        } catch (InvocationTargetException e) {
            Check.tell("what is shown throws " + e.getCause());
        }
    }

    /** Called by what README.md shows. */
    public static void shown(String call, Object want, Callable<Object> made) {
        Object got;
        try {
            got = made.call();
        } catch (Exception e) {
            got = e.getClass();
        }
        Check.due(call, plain(got), plain(want));
    }

    private static Object plain(Object answer) {
        return answer instanceof Number n ? (Object) n.longValue() : answer;
    }

    private static Set<String> face() {
        Set<String> names = new TreeSet<>();
        for (Method m : BorrowedStones.class.getDeclaredMethods()) {
            if (Modifier.isPublic(m.getModifiers())) {
                names.add(m.getName());
            }
        }
        return names;
    }

    private static void eachCallIsShown(List<String> blocks) {
        Set<String> left = face();
        for (String block : blocks) {
            for (String line : block.split("\n")) {
                Matcher m = SHOWN.matcher(line);
                if (m.matches()) {
                    left.remove(m.group(2));
                }
            }
        }
        Check.due("calls that are not shown", left, Set.of());
    }

    // ---- what is named

    private static void names(String prose, List<String> blocks) throws IOException {
        Set<String> classes = new TreeSet<>();
        for (Class<?> c : BorrowedStones.class.getDeclaredClasses()) {
            classes.add(c.getSimpleName());
        }
        Set<String> tests = testFiles();
        classes.addAll(tests);
        String document = Files.readString(Path.of("../shared/DOC.md"));
        Set<String> face = face();
        Set<String> named = new TreeSet<>();
        Matcher m = Pattern.compile("`([^`]*)`").matcher(prose);
        while (m.find()) {
            String name = m.group(1);
            named.add(name);
            boolean isThere = name.contains("(") ? name.endsWith("()") && face.contains(name.replace("()", ""))
                : name.contains("/") ? Files.exists(Path.of(name))
                : Character.isUpperCase(name.charAt(0)) ? classes.contains(name)
                : Set.of("java", "javac").contains(name) || document.contains(name);
            if (!isThere) {
                Check.tell("what is named is not there: " + name);
            }
        }
        classes.removeAll(named);
        Check.due("classes that are not named", classes, Set.of());
        // A call with arguments, or with an answer, belongs where it is run.
        Check.due("calls in the prose", Pattern.compile("\\bx\\.").matcher(prose).find(), false);
    }

    private static Set<String> testFiles() throws IOException {
        Set<String> names = new TreeSet<>();
        try (Stream<Path> all = Files.list(TESTS)) {
            all.map(p -> p.getFileName().toString()).filter(n -> n.endsWith(".java"))
                .forEach(n -> names.add(n.substring(0, n.length() - 5)));
        }
        return names;
    }

    // ---- the command for the tests

    /** The command is tried on a project of small tests, which pass all, or of which one fails ahead of others. */
    private static void command(List<String> blocks, Path room) throws Exception {
        Check.due("commands", blocks.size(), 1);
        String command = String.join("", blocks);
        Path project = Files.createDirectories(room.resolve("main"));
        Path own = Files.createDirectories(project.resolve(TESTS));
        Path shared = Files.createDirectories(room.resolve("shared/tests"));
        Path script = project.resolve(".ci/run");
        Files.createDirectories(script.getParent());
        Files.copy(Path.of(".ci/run"), script, StandardCopyOption.COPY_ATTRIBUTES);
        Path program = Files.createDirectories(project.resolve("src/main/java")).resolve("BorrowedStones.java");
        Files.writeString(program, "public final class BorrowedStones { }\n");
        List<Path> tests = new ArrayList<>();
        for (String name : NAMES) {
            tests.add((name.endsWith("Test") ? own : shared).resolve(name + ".java"));
        }
        for (Path test : tests) {
            write(test, 0);
        }
        runsAll(command, project, "all are well", true);
        for (String name : List.of("OneTest", "Four")) {
            Path test = tests.get(NAMES.indexOf(name));
            write(test, 1);
            runsAll(command, project, name + " fails", false);
            write(test, 0);
        }
        everyTestIsOne();
    }

    private static void write(Path test, int end) throws IOException {
        String name = test.getFileName().toString().replace(".java", "");
        Files.writeString(test, "public final class " + name + " {\n    public static void main(String[] args) {\n"
            + "        new BorrowedStones();\n        System.out.println(\"<" + name + ">\");\n        System.exit("
            + end + ");\n    }\n}\n");
    }

    private static void runsAll(String command, Path project, String when, boolean passes) throws Exception {
        Process p = new ProcessBuilder("sh", "-c", command).directory(project.toFile())
            .redirectErrorStream(true).start();
        p.getOutputStream().close();
        String said = new String(p.getInputStream().readAllBytes());
        Check.due("the command passes when " + when, p.waitFor() == 0, passes);
        for (String name : NAMES) {
            Check.due("the command runs " + name + " when " + when, said.contains("<" + name + ">"), true);
        }
    }

    /** The command takes a test of the project by its name: what can be run has such a name, nothing else has. */
    private static void everyTestIsOne() throws IOException {
        for (String name : testFiles()) {
            String source = Files.readString(TESTS.resolve(name + ".java"));
            Check.due(name + " is run as a test", name.endsWith("Test"), source.contains("static void main(String[] args)"));
        }
    }
}
