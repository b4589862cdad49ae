import java.lang.reflect.InvocationTargetException;
import java.lang.reflect.Method;
import java.nio.charset.StandardCharsets;
import java.util.ArrayList;
import java.util.List;
import java.util.Random;

/** Many runs of calls, drawn by fixed seeds, on the program and on the Model: all answers and refusals are alike. */
public final class FuzzTest {
    private static final int RUNS = 4000;
    // What is begun then may go on for some 150 more; an object is used for 512 at most.
    private static final int CALLS = 340;

    private final Random r;
    private final BorrowedStones program = new BorrowedStones();
    private final Model model = new Model();
    private final List<String> log = new ArrayList<>();
    private int people;

    private FuzzTest(long seed) {
        r = new Random(seed);
    }

    public static void main(String[] args) throws Exception {
        int runs = args.length > 0 ? Integer.parseInt(args[0]) : RUNS;
        int base = args.length > 1 ? Integer.parseInt(args[1]) : 0;
        for (int i = 0; i < runs; i++) {
            FuzzTest run = new FuzzTest(base + i);
            if (!run.goes()) {
                System.out.println("seed " + (base + i) + ":");
                run.log.forEach(System.out::println);
                System.exit(1);
            }
        }
    }

    private static final Method[] FACE = BorrowedStones.class.getDeclaredMethods();

    private static Method named(Class<?> of, String name) {
        for (Method m : of == BorrowedStones.class ? FACE : of.getDeclaredMethods()) {
            if (m.getName().equals(name) && java.lang.reflect.Modifier.isPublic(m.getModifiers())) {
                return m;
            }
        }
        throw new IllegalStateException(name);
    }

    private static final java.util.Map<String, Method[]> BOTH = new java.util.HashMap<>();

    static {
        for (Method m : FACE) {
            if (java.lang.reflect.Modifier.isPublic(m.getModifiers())) {
                BOTH.put(m.getName(), new Method[] {m, named(Model.class, m.getName())});
            }
        }
    }

    private static Object answer(Object of, Method m, Object[] with) throws IllegalAccessException {
        try {
            return m.invoke(of, with);
        } catch (InvocationTargetException e) {
            return "throws." + e.getCause().getClass().getSimpleName();
        }
    }

    private boolean same(String name, int... with) throws Exception {
        Method[] both = BOTH.get(name);
        Object[] boxed = new Object[with.length];
        for (int i = 0; i < with.length; i++) {
            boxed[i] = with[i];
        }
        Object got = answer(program, both[0], boxed);
        Object due = answer(model, both[1], boxed);
        log.add(name + java.util.Arrays.toString(with) + " = " + got);
        if (!got.equals(due)) {
            log.add("  due is " + due);
            return false;
        }
        return true;
    }

    private int below(int n) {
        return r.nextInt(n);
    }

    private int from(int low, int high) {
        return low + r.nextInt(high - low + 1);
    }

    /** Mostly within the bounds, at times at or beyond them. */
    private int near(int low, int high) {
        switch (below(20)) {
            case 0: return low - 1;
            case 1: return high + 1;
            case 2: return low;
            case 3: return high;
            case 4: return below(4) == 0 ? r.nextInt() : from(low, high);
            default: return from(low, high);
        }
    }

    private int who() {
        return near(0, Math.max(0, people - 1));
    }

    private int bits() {
        if (below(25) == 0) {
            return r.nextBoolean() ? r.nextInt() : 1 << people;
        }
        int all = (1 << people) - 1;
        return r.nextBoolean() ? r.nextInt() & all : r.nextInt() & r.nextInt() & all;
    }

    // ---- texts

    private String blank() {
        return below(6) == 0 ? " ".repeat(below(3)) : "";
    }

    private int number(int low, int high) {
        return below(40) == 0 ? (r.nextBoolean() ? high + 1 : Math.max(0, low - 1)) : from(low, high);
    }

    private String digits(int number) {
        return (below(30) == 0 ? "0".repeat(below(12)) : "") + number;
    }

    private String personNumber() {
        return blank() + " " + digits(people == 0 ? below(2) : below(60) == 0 ? people : below(people));
    }

    private String peninsula() {
        StringBuilder b = new StringBuilder();
        int many = below(12) == 0 ? from(0, 9) : from(2, 8);
        int told = 0;
        for (int i = 0; i < many; i++) {
            b.append(blank()).append("person ").append(digits(number(0, 9))).append(' ')
                .append(digits(below(3) == 0 ? 0 : number(0, 60))).append(blank()).append(';');
            told++;
            while (below(2) == 0) {
                b.append(blank()).append("friend ").append(number(0, told - 1)).append(' ')
                    .append(number(0, told - 1)).append(blank()).append(';');
            }
        }
        while (told > 1 && below(4) != 0 && b.length() < 560) {
            int one = below(told);
            b.append("friend ").append(one).append(' ').append((one + from(1, told - 1)) % told).append(';');
        }
        while (below(2) == 0 || below(60) == 0 && b.length() < 590) {
            b.append(blank()).append("most ").append(number(1, 4)).append(';');
        }
        if (below(30) == 0) {
            b.append("most 1;".repeat(60));
        }
        return b.append(blank()).toString();
    }

    private static final String[] FACTS = {"kind", "debts", "stones", "friend", "owed", "dead", "year", "person"};

    private String expr(int depth) {
        StringBuilder b = new StringBuilder(unit(depth));
        for (int i = below(3); i > 0; i--) {
            b.append(blank()).append("+-*/%".charAt(below(5))).append(blank()).append(unit(depth));
        }
        return b.toString();
    }

    private String unit(int depth) {
        int kind = below(depth > 6 ? 6 : 10);
        if (kind < 2) {
            return digits(below(50) == 0 ? number(0, 999) : below(20));
        }
        if (kind < 6) {
            return blank() + FACTS[below(8)];
        }
        if (kind < 8) {
            return "(" + expr(depth + 1) + blank() + ")";
        }
        return (kind == 8 ? "least" : "most") + blank() + "[" + expr(depth + 1) + blank() + "," + expr(depth + 1) + "]";
    }

    private String lawText() {
        if (below(8) == 0) {
            String open = "(".repeat(from(4, 7));
            return open + "kind+" + "most[".repeat(below(3)) + "9" + ",friend]".repeat(below(3)) + open.replace('(', ')');
        }
        return expr(0) + (below(2) == 0 ? "+" + from(5, 25) : "") + blank();
    }

    private String step(int depth) {
        switch (below(depth > 6 ? 10 : 12)) {
            case 0:
            case 1:
            case 2: return "die" + personNumber() + blank() + ";";
            case 3:
            case 4: return "lend" + personNumber() + personNumber() + ";";
            case 5: return "pay" + personNumber() + " " + digits(number(1, 60)) + ";";
            case 6: return "owe" + personNumber() + " " + number(1, 60) + ";";
            case 7:
            case 8:
            case 9: return blank() + "year" + blank() + ";";
            default:
                StringBuilder b = new StringBuilder("again " + number(0, 60) + blank() + "[");
                for (int i = below(3); i > 0; i--) {
                    b.append(step(depth + 1));
                }
                return b.append(blank()).append("]").append(blank()).append(";").toString();
        }
    }

    private String workText() {
        if (below(10) == 0) {
            int deep = from(5, 7);
            return "again 2[".repeat(deep) + "year;" + "];".repeat(deep);
        }
        if (below(25) == 0) {
            return "again 60[again 60[year;];];";
        }
        StringBuilder b = new StringBuilder();
        for (int i = from(0, 4); i > 0; i--) {
            b.append(step(0));
        }
        return b.toString();
    }

    private String bookText() {
        StringBuilder b = new StringBuilder();
        for (int p = 0; p < people; p++) {
            if (below(3) == 0) {
                b.append(below(30) == 0 ? 0 : p).append(blank()).append(' ').append(below(20) == 0 ? number(0, 8) : below(3)).append(";");
            }
        }
        return b.append(blank()).toString();
    }

    private String spoilt(String text) {
        if (below(5) != 0 || text.isEmpty()) {
            return text;
        }
        int at = below(text.length());
        String sign = String.valueOf("abkmost019 ;,[]()+-*/%A\n\u00e9\0".charAt(below(26)));
        switch (below(4)) {
            case 0: return text.substring(0, at);
            case 1: return text.substring(0, at) + text.substring(at + 1);
            case 2: return text.substring(0, at) + sign + text.substring(at);
            default: return text.substring(0, at) + sign + text.substring(at + 1);
        }
    }

    private boolean tells(String call, String text, int most) throws Exception {
        String whole = text.length() > most ? text.substring(0, most) : text;
        byte[] bytes = java.util.Arrays.copyOf(whole.getBytes(StandardCharsets.ISO_8859_1), (whole.length() + 19) / 20 * 20);
        for (int i = 0; i < bytes.length; i += 20) {
            java.nio.ByteBuffer b = java.nio.ByteBuffer.wrap(bytes, i, 20);
            if (!same("feed", b.getInt(), b.getInt(), b.getInt(), b.getInt(), b.getInt())) {
                return false;
            }
        }
        log.add("  " + whole);
        int n = below(60) == 0 ? near(0, bytes.length) : whole.length();
        return same(call, n) && same("fault") && same("told", 10) && same("count", 1);
    }

    private boolean tellsPeninsula() throws Exception {
        boolean alike = tells("peninsula", spoilt(peninsula()), 600);
        people = program.told(0);
        model.told(0);
        return alike;
    }

    // ---- runs

    private boolean goes() throws Exception {
        if (below(10) != 0 && !tellsPeninsula()) {
            return false;
        }
        if (below(2) == 0 && !tells("law", lawText(), 150)) {
            return false;
        }
        while (below(12) == 0 && program.told(3) < 900 && program.count(2) < 16) {
            model.told(3);
            if (!tells("work", "again 60[year;];again 60[year;];again 60[year;];", 150)) {
                return false;
            }
        }
        while (log.size() < CALLS) {
            if (!goesOn()) {
                return false;
            }
        }
        return true;
    }

    private boolean goesOn() throws Exception {
        switch (below(24)) {
            case 0: return below(6) != 0 || tellsPeninsula();
            case 1: return below(3) != 0 || tells("law", spoilt(lawText()), 150);
            case 2: return tells("book", spoilt(bookText()), 60);
            case 3:
            case 4: return tells("work", spoilt(workText()), 150);
            case 5: return below(3) != 0 || same("undo") && same("told", 10);
            case 6: return same(below(2) == 0 ? "image" : "restore") && same("told", 10);
            case 13: return below(3) != 0 || goesBackAndForth();
            case 7: return same("status", near(0, 1)) && same("count", near(0, 2));
            case 8: return same("home", near(0, 12), near(0, 13), near(0, 16), near(0, 1));
            case 9: return same("neighbours", near(0, 99), below(3) == 0 ? 0 : near(0, 99), near(0, 2));
            case 10: return asksMany();
            case 11: return asksCenturies();
            case 12: return below(30) != 0 || same("feed", r.nextInt(), r.nextInt(), r.nextInt(), r.nextInt(), r.nextInt());
            default: return asks();
        }
    }

    /** WORKS, images and what undoes them, so often that all room for them is used. */
    private boolean goesBackAndForth() throws Exception {
        int turns = below(30);
        for (int i = 0; i < turns; i++) {
            boolean alike;
            switch (below(6)) {
                case 0:
                case 1: alike = tells("work", step(0), 150); break;
                case 2: alike = tells("work", "year;", 150); break;
                case 3: alike = same("image"); break;
                case 4: alike = same("restore"); break;
                default: alike = same("undo"); break;
            }
            if (!alike || !same("told", from(1, 6)) || !same("count", 2) || !same("told", 3)) {
                return false;
            }
        }
        return true;
    }

    private boolean asksMany() throws Exception {
        int bits = bits();
        return same("served", bits, near(0, 1)) && same("served", bits, 1) && same("giver", who(), bits)
            && same("order", bits, near(0, 1)) && same("order", bits, 1)
            && same("fits", bits, near(0, 1)) && same("fits", bits, 1)
            && same("look", bits, near(0, 1)) && same("look", bits, 1)
            && same("flowers", who(), bits, below(2) == 0 ? below(5) : near(0, 99));
    }

    private boolean asksCenturies() throws Exception {
        int years = near(1, 96);
        int q = near(0, 16);
        return same("century", r.nextInt(), years, q, near(0, 3))
            && (below(4) != 0 || same("span", r.nextInt(), near(1, 20), years, q, near(0, 2), who()));
    }

    private boolean asks() throws Exception {
        switch (below(22)) {
            case 0: return same("told", near(0, 11));
            case 1: return same("told", 7) && same("told", 11) && same("told", 6);
            case 2: return same("person", who(), near(0, 7));
            case 3: return same("will", who(), who());
            case 4: return same("lends", who(), who());
            case 5: return same("would", near(0, 9), near(0, 999), near(0, 8), near(0, 1), near(0, 999), near(0, 8),
                near(0, 900), near(0, 7));
            case 6:
            case 7: return same("lender", who());
            case 8: return same("ahead", near(0, 99), near(0, 2));
            case 9: return same("truly", who());
            case 10: return same("chain", who());
            case 11: return same("honoured", near(0, 1));
            case 12: return same("sued", near(0, 1));
            case 13: return same("free", who());
            case 14: return same("kin", who());
            case 15: return same("willing", who());
            case 16: return same("below", who());
            case 17: return same("debtless");
            case 18: return same("after", who(), near(0, 1));
            case 19: return same("latest", near(0, 1));
            case 20: return same("told", 2) && same("told", 5) && same("told", 3) && same("told", 4);
            default: return same("person", who(), from(1, 7));
        }
    }
}
