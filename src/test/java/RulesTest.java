import java.lang.reflect.Constructor;
import java.lang.reflect.Field;
import java.lang.reflect.Member;
import java.lang.reflect.Method;
import java.lang.reflect.Modifier;
import java.nio.file.Files;
import java.nio.file.Path;
import java.util.ArrayList;
import java.util.List;
import java.util.Set;
import java.util.TreeSet;
import java.util.regex.Matcher;
import java.util.regex.Pattern;

/** The face is the document's, to the letter, and the program keeps to what can be seen of LANGUAGE.md. */
public final class RulesTest {
    private static int wrong;

    private static void must(boolean kept, String what) {
        if (!kept) {
            wrong++;
            System.out.println(what);
        }
    }

    public static void main(String[] args) throws Exception {
        String document = Files.readString(Path.of("../shared/DOC.md"));
        String source = Files.readString(Path.of("src/main/java/BorrowedStones.java"));
        face(document);
        classes();
        words(source);
        lengths(source);
        room();
        System.out.println(wrong == 0 ? "the rules are kept" : wrong + " rules are broken");
        if (wrong != 0) {
            System.exit(1);
        }
    }

    // ---- rule 1

    private static String told(Method m) {
        StringBuilder b = new StringBuilder("public ").append(m.getReturnType().getName()).append(' ')
            .append(m.getName()).append('(');
        for (int i = 0; i < m.getParameterCount(); i++) {
            b.append(i == 0 ? "" : ", ").append(m.getParameterTypes()[i].getName());
        }
        b.append(')');
        for (int i = 0; i < m.getExceptionTypes().length; i++) {
            b.append(i == 0 ? " throws " : ", ").append(m.getExceptionTypes()[i].getSimpleName());
        }
        return b.toString();
    }

    private static void face(String document) {
        Set<String> due = new TreeSet<>();
        Matcher m = Pattern.compile("    (public \\w+ \\w+)\\(([^)]*)\\)([^;]*);").matcher(document);
        while (m.find()) {
            due.add(m.group(1) + "(" + m.group(2).replaceAll("(\\w+) \\w+", "$1") + ")" + m.group(3));
        }
        Set<String> got = new TreeSet<>();
        Set<String> names = new TreeSet<>();
        for (Method x : BorrowedStones.class.getDeclaredMethods()) {
            if (Modifier.isPublic(x.getModifiers())) {
                got.add(told(x));
                names.add(x.getName());
            }
        }
        must(due.size() == 39, "39 methods are read from the document: " + due.size());
        must(got.equals(due), "the face is " + got + ", due is " + due);
        for (Class<?> c : all()) {
            for (Method x : c.getDeclaredMethods()) {
                boolean ofFace = c == BorrowedStones.class && Modifier.isPublic(x.getModifiers());
                must(ofFace || !names.contains(x.getName()), "a method bears the name of a public one: " + x);
            }
        }
        for (Member x : members(BorrowedStones.class)) {
            must(Modifier.isPrivate(x.getModifiers()) || got.contains(x instanceof Method f ? told(f) : "")
                || x instanceof Constructor || x.getName().equals("NONE"), "a member beside the face: " + x);
        }
        must(BorrowedStones.class.getConstructors().length == 1
            && BorrowedStones.class.getDeclaredConstructors().length == 1, "one constructor");
        must(Modifier.isFinal(BorrowedStones.class.getModifiers()), "the class is final");
        must(BorrowedStones.NONE == -1, "NONE is -1");
    }

    private static List<Member> members(Class<?> c) {
        List<Member> out = new ArrayList<>(List.of(c.getDeclaredMethods()));
        out.addAll(List.of(c.getDeclaredFields()));
        out.addAll(List.of(c.getDeclaredConstructors()));
        out.removeIf(Member::isSynthetic);
        return out;
    }

    private static List<Class<?>> all() {
        List<Class<?>> out = new ArrayList<>(List.of(BorrowedStones.class.getDeclaredClasses()));
        out.add(BorrowedStones.class);
        return out;
    }

    // ---- rules 1, 5, 11

    private static void classes() {
        must(all().size() <= 12, "twelve classes at most: " + all().size());
        for (Class<?> c : all()) {
            boolean inner = c != BorrowedStones.class;
            must(!inner || Modifier.isStatic(c.getModifiers()) && !Modifier.isPublic(c.getModifiers())
                && !Modifier.isProtected(c.getModifiers()), "static, not public: " + c);
            must(c.getDeclaredClasses().length == 0 || !inner, "no class inside a class inside: " + c);
            int fields = 0;
            for (Field f : c.getDeclaredFields()) {
                boolean isStatic = Modifier.isStatic(f.getModifiers());
                must(!isStatic || Modifier.isFinal(f.getModifiers()), "static and not final: " + f);
                must(!isStatic || f.getType() == int.class, "a constant that is no int: " + f);
                fields += isStatic ? 0 : 1;
            }
            must(fields <= 20, "twenty fields at most: " + c + " has " + fields);
            for (Method m : c.getDeclaredMethods()) {
                boolean ofFace = !inner && Modifier.isPublic(m.getModifiers());
                must(ofFace || m.getParameterCount() <= 7, "seven parameters at most: " + m);
            }
        }
    }

    // ---- rules 2, 4, 6, 10, 12, 13

    private static String bare(String source) {
        return source.replaceAll("(?s)/\\*.*?\\*/", "").replaceAll("//[^\n]*", "");
    }

    private static void words(String source) {
        String bare = bare(source);
        for (String no : List.of("->", "::", "@", "\\bcatch\\b", "\\btry\\b", "\\bfinally\\b", "\\bsynchronized\\b",
            "\\bassert\\b", "\\bExact", "\\bSystem\\b", "\\bArrays\\b", "\\bThread\\b", "\\bstatic \\{", "\\bpackage\\b",
            "\\bnative\\b", "\\bvolatile\\b", "\\bdouble\\b", "\\bfloat\\b", "\\bextends\\b", "\\bimplements\\b",
            "\" *\\+", "\\+ *\"", "\\(\\w*(Exception|Error)\\b", "\\binterface\\b", "\\bObject\\b")) {
            Matcher m = Pattern.compile(no).matcher(bare);
            must(!m.find(), "not in the language or not needed: " + no);
        }
        Matcher imports = Pattern.compile("import ([^;]*);").matcher(bare);
        while (imports.find()) {
            must(imports.group(1).equals("java.util.NoSuchElementException"), "an import: " + imports.group());
        }
        Matcher thrown = Pattern.compile("throw ([^;]*);").matcher(bare);
        while (thrown.find()) {
            must(Set.of("new NoSuchElementException()", "new IllegalArgumentException()").contains(thrown.group(1)),
                "thrown: " + thrown.group(1));
        }
        // Rows are made where an object is made, never by a call.
        Matcher made = Pattern.compile("(?m)^(.*)\\bnew (?!NoSuch|Illegal)").matcher(bare);
        while (made.find()) {
            must(made.group(1).matches("\\s*(private )?final [\\w\\[\\]]+ \\w+ = "), "made by a call: " + made.group());
        }
        for (char c : source.toCharArray()) {
            must(c > 0 && c < 127, "a sign beyond 126");
        }
    }

    // ---- rule 11

    private static void lengths(String source) {
        String[] lines = source.split("\n");
        int from = -1;
        String head = "";
        for (int i = 0; i < lines.length; i++) {
            must(lines[i].length() <= 120, "a long line: " + (i + 1));
            boolean opens = lines[i].matches("( {4}| {8})(?! )[\\w].*\\{") || lines[i].matches("( {8}| {12})throws .*\\{");
            if (opens && !lines[i].contains(" class ")) {
                from = i;
                head = lines[i].trim();
            }
            if (from >= 0 && lines[i].matches("( {4}| {8})\\}") && i - from > 60) {
                must(false, "a long method: " + head);
            }
        }
    }

    // ---- rule 12: what a run makes

    private static void room() {
        var threads = (com.sun.management.ThreadMXBean) java.lang.management.ManagementFactory.getThreadMXBean();
        long me = Thread.currentThread().getId();
        BorrowedStones[] warm = new BorrowedStones[40];
        for (int i = 0; i < warm.length; i++) {
            warm[i] = new BorrowedStones();
            dear(warm[i]);
        }
        long before = threads.getThreadAllocatedBytes(me);
        dear(warm[0]);
        long made = threads.getThreadAllocatedBytes(me) - before;
        must(made < 20000, "what calls make, in bytes: " + made);
        before = threads.getThreadAllocatedBytes(me);
        new BorrowedStones();
        made = threads.getThreadAllocatedBytes(me) - before;
        must(made < 30000, "what an object takes, in bytes: " + made);
    }

    private static void dear(BorrowedStones x) {
        // "person 9 9;" eight times.
        for (int i = 0; i < 8; i++) {
            x.feed(0x70657273, 0x6f6e2039, 0x20393b20, 0x20202020, 0x20202020);
        }
        x.peninsula(160);
        x.span(1, 20, 96, 9, 0, 0);
        x.order(31, 0);
        x.look(31, 0);
        x.served(15, 1);
        x.image();
    }
}
