import java.lang.reflect.InvocationTargetException;
import java.lang.reflect.Method;
import java.util.ArrayList;
import java.util.Arrays;
import java.util.List;
import java.util.Set;
import java.util.TreeSet;
import java.util.function.Consumer;
import java.util.function.Supplier;

/** Each refused call: by which exception, which goes ahead where two would be due, how it is counted, what it leaves. */
public final class RefusalsTest extends Check {
    // Of each method what its arguments may be on busy(): P a PERSON (refused by NoSuchElementException), or from..to.
    private static final String[] FACE = {
        "told 0..11", "person P 0..7", "will P P", "lends P P",
        "would 0..9 0..999 0..8 0..1 0..999 0..8 0..900 0..7", "lender P", "ahead 0..99 0..2", "truly P", "chain P",
        "served 0..15 0..1", "giver P 0..15", "order 0..15 0..1", "fits 0..15 0..1", "look 0..15 0..1",
        "neighbours 0..99 0..99 0..2", "home 0..12 0..13 0..16 0..1", "flowers P 0..15 0..99", "honoured 0..1",
        "sued 0..1", "free P", "kin P", "willing P", "below P", "after P 0..1", "latest 0..1",
        "century any 1..96 0..16 0..3", "span any 1..20 1..96 0..16 0..2 0..3"};
    private static final String[] TEXTS = {"peninsula 0..40", "law 0..40", "work 0..40", "book 0..40"};
    private static final String[] NEVER_REFUSED = {"debtless", "fault", "status any", "count any"};
    private static final String[] CHANGING = {"feed", "undo", "image", "restore"};

    private static final int PERSONS = 4;

    public static void main(String[] args) {
        allOfTheFace();
        oneIsWrong();
        moreAreWrong();
        allIsRight();
        askedNothingStaysChanged();
        notRefused();
        faultsLeaveAll();
        fullAndEmpty();
        countedForGood();
        sixWhoLive();
        end("what is refused is refused as it is due");
    }

    // ---- objects, and all that can be seen of them

    /** Two are dead, one of them under a NAME; a LAW, a BOOK, three WORKS, two IMAGES, a FAULT, 40 bytes of the TAPE. */
    private static BorrowedStones busy() {
        BorrowedStones x = on("person 9 5;person 4 10;person 2 60;person 7 20;friend 0 1;friend 2 3;friend 1 2;most 2;");
        law(x, "kind*3+friend*9-stones*5+owed/9");
        work(x, "die 0;year;");
        x.image();
        book(x, "1 1;3 0;");
        work(x, "owe 1 60;die 1;year;");
        x.image();
        work(x, "pay 2 3;die 0;year;owe 0 1;");
        law(x, "kind+?");
        fed(x, "debts*7+1-dead                          ");
        return x;
    }

    private static void person(BorrowedStones x, int p, List<Object> seen) {
        for (int what = 0; what <= 7; what++) {
            seen.add(x.person(p, what));
        }
        seen.add(x.lender(p));
        seen.add(x.truly(p));
        seen.add(x.chain(p));
        seen.add(x.willing(p));
        seen.add(x.kin(p));
    }

    private static void now(BorrowedStones x, List<Object> seen) {
        for (int what = 1; what <= 11; what++) {
            seen.add(x.told(what));
        }
        seen.add(x.latest(1));
        seen.add(x.count(2));
        seen.add(x.century(9, 20, 4, 2));
    }

    /** What an object answers, and goes on to answer as all is undone and restored; not how it counts what was refused. */
    private static List<Object> allOf(BorrowedStones x) {
        List<Object> seen = new ArrayList<>(List.of(x.count(0), x.count(1), x.fault()));
        now(x, seen);
        int people = x.told(0);
        for (int p = 0; p < people; p++) {
            person(x, p, seen);
            for (int other = 0; other < people; other++) {
                seen.add(x.will(p, other));
            }
        }
        seen.add(x.fits(people > 4 ? 0 : (1 << people) - 1, 0));
        seen.add(x.look(0, 0));
        seen.add(x.look(0, 1));
        seen.add(x.law(Math.min(150, x.count(1))));
        seen.add(x.fault());
        seen.add(x.count(1));
        seen.add(x.would(9, 5, 1, 1, 60, 2, 3, 1));
        back(x, seen);
        return seen;
    }

    private static void back(BorrowedStones x, List<Object> seen) {
        int left;
        do {
            while (x.undo() >= 0) {
                seen.addAll(List.of(x.told(1), x.told(3), x.told(5)));
            }
            left = x.restore();
            now(x, seen);
        } while (left >= 0);
        for (int p = 0; p < x.told(0); p++) {
            seen.add(x.person(p, 1));
            seen.add(x.person(p, 2));
        }
    }

    private static void alike(String what, BorrowedStones got, BorrowedStones want) {
        due("all behind " + what, allOf(got), allOf(want));
    }

    /** Of two objects that were made alike, one has had a call: all that can be seen of them is alike. */
    private static void leaves(String what, Supplier<BorrowedStones> made, Consumer<BorrowedStones> call) {
        BorrowedStones x = made.get();
        call.accept(x);
        alike(what, x, made.get());
    }

    // ---- calls by their names

    private static Object answer(BorrowedStones x, String name, int... with) {
        Object[] all = Arrays.stream(with).boxed().toArray();
        try {
            for (Method m : BorrowedStones.class.getMethods()) {
                if (m.getName().equals(name)) {
                    return m.invoke(x, all);
                }
            }
        } catch (InvocationTargetException e) {
            return e.getCause().getClass().getSimpleName();
        } catch (IllegalAccessException e) {
            return e;
        }
        return "is no method";
    }

    /** Whether an argument of this kind is right up to these bounds; any is always. */
    private static int[] bounds(String kind) {
        if (kind.equals("any")) {
            return new int[] {Integer.MIN_VALUE, Integer.MAX_VALUE};
        }
        if (kind.equals("P")) {
            return new int[] {0, PERSONS - 1};
        }
        String[] ends = kind.split("\\.\\.");
        return new int[] {Integer.parseInt(ends[0]), Integer.parseInt(ends[1])};
    }

    private static int[] wrongOnes(String kind) {
        int[] b = bounds(kind);
        return kind.equals("any") ? new int[0] : new int[] {b[0] - 1, b[1] + 1, Integer.MIN_VALUE, Integer.MAX_VALUE};
    }

    private static int[] rightOnes(String[] told) {
        int[] all = new int[told.length - 1];
        for (int i = 0; i < all.length; i++) {
            int[] b = bounds(told[i + 1]);
            all[i] = b[0] / 2 + b[1] / 2;
        }
        return all;
    }

    private static void isRefused(String name, int[] with, boolean byPerson) {
        String what = name + Arrays.toString(with);
        BorrowedStones x = busy();
        due(what, answer(x, name, with), byPerson ? "NoSuchElementException" : "IllegalArgumentException");
        due("strangers behind " + what, x.status(0), byPerson ? 1 : 0);
        due("wrongs behind " + what, x.status(1), byPerson ? 0 : 1);
        alike(what, x, busy());
    }

    private static List<String> refusing() {
        List<String> all = new ArrayList<>(List.of(FACE));
        all.addAll(List.of(TEXTS));
        return all;
    }

    // ---- tests

    private static void allOfTheFace() {
        says("public final class BorrowedStones {");
        Set<String> told = new TreeSet<>();
        for (String[] some : new String[][] {FACE, TEXTS, NEVER_REFUSED, CHANGING}) {
            for (String one : some) {
                told.add(one.split(" ")[0]);
            }
        }
        Set<String> all = new TreeSet<>();
        for (Method m : BorrowedStones.class.getMethods()) {
            if (m.getDeclaringClass() == BorrowedStones.class) {
                all.add(m.getName());
            }
        }
        due("what is tested", told, all);
    }

    private static void oneIsWrong() {
        says("NoSuchElementException: no such PERSON (so below, ahead of others).");
        for (String one : refusing()) {
            String[] told = one.split(" ");
            for (int i = 1; i < told.length; i++) {
                for (int wrong : wrongOnes(told[i])) {
                    int[] with = rightOnes(told);
                    with[i - 1] = wrong;
                    isRefused(told[0], with, told[i].equals("P"));
                }
            }
        }
    }

    /** Two at a time, and all: that there is no such PERSON goes ahead. */
    private static void moreAreWrong() {
        says("NoSuchElementException: no such PERSON (so below, ahead of others).");
        for (String one : refusing()) {
            String[] told = one.split(" ");
            for (int i = 1; i < told.length; i++) {
                for (int j = i + 1; j < told.length; j++) {
                    if (!told[i].equals("any")) {
                        int[] with = rightOnes(told);
                        with[i - 1] = bounds(told[i])[1] + 1;
                        with[j - 1] = bounds(told[j])[0] - 1;
                        isRefused(told[0], with, told[i].equals("P") || told[j].equals("P"));
                    }
                }
            }
            int[] all = new int[told.length - 1];
            Arrays.fill(all, -1);
            isRefused(told[0], all, told[1].equals("P"));
        }
    }

    /** The first and the last value that are allowed, of each argument and of all of them. */
    private static void allIsRight() {
        says("How many calls were refused: 0 NoSuchElementException, 1 IllegalArgumentException");
        for (String one : refusing()) {
            String[] told = one.split(" ");
            for (int end = 0; end <= 1; end++) {
                int[] all = new int[told.length - 1];
                for (int i = 1; i < told.length; i++) {
                    int[] with = rightOnes(told);
                    with[i - 1] = bounds(told[i])[end];
                    all[i - 1] = with[i - 1];
                    isTaken(told[0], with);
                }
                isTaken(told[0], all);
            }
        }
    }

    private static void isTaken(String name, int[] with) {
        String what = name + Arrays.toString(with);
        BorrowedStones x = busy();
        Object got = answer(x, name, with);
        if (got instanceof String) {
            tell(what + " threw " + got + ", due is an answer");
        }
        due("refused behind " + what, x.status(0) + x.status(1), 0);
    }

    private static void askedNothingStaysChanged() {
        says("Asked, nothing stays changed");
        for (String one : FACE) {
            String[] told = one.split(" ");
            for (int end = 0; end <= 1; end++) {
                int[] with = rightOnes(told);
                for (int i = 0; i < with.length; i++) {
                    int which = i;
                    int value = bounds(told[i + 1])[end];
                    leaves(told[0] + " " + i + " at " + value, RefusalsTest::busy, x -> {
                        int[] these = with.clone();
                        these[which] = value;
                        answer(x, told[0], these);
                    });
                }
            }
        }
        for (int p = 0; p < PERSONS; p++) {
            int who = p;
            leaves("what is asked of " + p, RefusalsTest::busy, x -> {
                person(x, who, new ArrayList<>());
                x.after(who, 0);
                x.below(who);
                x.free(who);
                x.giver(who, 15 - who);
                x.order(15, 1);
                x.look(15, who % 2);
                x.span(who, 20, 96, 5 * who, who % 3, who);
            });
        }
        leaves("debtless, fault, status, count", RefusalsTest::busy, x -> {
            x.debtless();
            x.fault();
            x.status(0);
            x.count(0);
        });
    }

    private static void notRefused() {
        says("NONE for others. (No IMAGE keeps it.)");
        BorrowedStones x = busy();
        for (int what : new int[] {-1, 2, 9, Integer.MIN_VALUE, Integer.MAX_VALUE}) {
            due("status", x.status(what), -1);
        }
        due("none was refused", x.status(0), 0);
        due("none was refused", x.status(1), 0);
        says("How many calls were refused");
        due("a FAULT", x.law(40), 1);
        due("a FAULT", law(x, "?"), -9);
        due("a FAULT", peninsula(x, "?"), -9);
        due("a FAULT", work(x, "die 9;"), -8);
        due("a FAULT", book(x, "9 9;"), -8);
        x.image();
        due("a fourth IMAGE", x.image(), -1);
        due("REFUSED STEPS", work(x, "pay 0 1;die 0;"), 0);
        for (int i = 0; i < 40; i++) {
            x.feed(0, 0, 0, 0, 0);
        }
        due("beyond the TAPE", x.feed(0, 0, 0, 0, 0), -1);
        while (x.undo() >= 0) {
            due("undone", x.told(10), 0);
        }
        while (x.restore() >= 0) {
            due("restored", x.told(10), 0);
        }
        due("none was refused", x.status(0), 0);
        due("none was refused", x.status(1), 0);
    }

    // ---- what is answered by less than 0

    /** Empties the TAPE, and leaves a FAULT at 0: what a text with a FAULT may change is alike then. */
    private static BorrowedStones emptied(BorrowedStones x) {
        x.law(0);
        return x;
    }

    private static void faultsLeaveAll() {
        says("or the FAULT less 10 (all but the TAPE stays)");
        String[][] all = {{"peninsula", "most 1;person 1 1;person"}, {"peninsula", "most 9;"},
            {"peninsula", "person 1 1;".repeat(9)}, {"law", "99+"}, {"law", "1000"}, {"law", "((((((((1"},
            {"work", "die 2;year;year"}, {"work", "die 2;die 4;"}, {"work", "year;" + "again 2[".repeat(7)},
            {"book", "0 0;2 0"}, {"book", "0 9;"}, {"book", "0 0;0 0;"}};
        for (String[] one : all) {
            BorrowedStones x = emptied(busy());
            int n = fed(x, one[1]);
            int got = (int) answer(x, one[0], n);
            due(one[0] + " of " + one[1], got < -6 && got > -10, true);
            alike(one[1], emptied(x), emptied(busy()));
        }
        leaves("a WORK with a FAULT", () -> emptied(full()), x -> {
            due("ahead of the FAULT", work(x, "die 9;"), -20);
            emptied(x);
        });
        leaves("a WORK beyond 16", () -> emptied(full()), x -> {
            due("16 are there", work(x, "die 2;year;"), -20);
            emptied(x);
        });
    }

    /** 16 WORKS, 3 IMAGES. */
    private static BorrowedStones full() {
        BorrowedStones x = busy();
        x.law(40);
        while (x.count(2) < 16) {
            work(x, "owe 2 1;die 1;");
        }
        x.image();
        return x;
    }

    private static BorrowedStones fullTape() {
        BorrowedStones x = full();
        while (x.count(1) < 600) {
            fed(x, "1+kind+1+person-dead");
        }
        return x;
    }

    private static void fullAndEmpty() {
        says("NONE, doing nothing, if there would be more than 600");
        leaves("feed beyond 600", RefusalsTest::fullTape, x -> due("feed", x.feed(1, 2, 3, 4, 5), -1));
        says("how many there are; -1: there are 3.");
        leaves("a fourth IMAGE", RefusalsTest::full, x -> due("image", x.image(), -1));
        says("how many are left; -1: there is none.");
        leaves("undo without WORKS", () -> on(THREE), x -> due("undo", x.undo(), -1));
        leaves("restore without IMAGES", () -> on(THREE), x -> due("restore", x.restore(), -1));
        leaves("restore without IMAGES, with WORKS", RefusalsTest::ofWorksAlone, x -> due("restore", x.restore(), -1));
        leaves("undo without WORKS, with IMAGES", RefusalsTest::ofImagesAlone, x -> due("undo", x.undo(), -1));
        says("-20 behind the exception");
        for (int n : new int[] {-1, 41, Integer.MAX_VALUE}) {
            leaves("work of " + n, RefusalsTest::fullWithSome, x -> illegal("work", () -> x.work(n)));
        }
    }

    private static BorrowedStones ofWorksAlone() {
        BorrowedStones x = on(THREE);
        work(x, "die 0;die 0;");
        return x;
    }

    private static BorrowedStones ofImagesAlone() {
        BorrowedStones x = ofWorksAlone();
        x.image();
        x.undo();
        return x;
    }

    private static BorrowedStones fullWithSome() {
        BorrowedStones x = full();
        fed(x, "year;year;year;year;year;year;year;year;");
        return x;
    }

    // ---- how it is counted

    private static void countedForGood() {
        says("NONE for others. (No IMAGE keeps it.)");
        BorrowedStones x = on(THREE);
        x.image();
        for (int i = 1; i <= 20; i++) {
            nobody("a fourth", () -> x.kin(3));
            illegal("another what", () -> x.told(12));
            illegal("another what", () -> x.sued(2));
            due("strangers", x.status(0), i);
            due("wrongs", x.status(1), 2 * i);
        }
        x.image();
        work(x, "die 0;");
        x.undo();
        x.restore();
        x.restore();
        due("no IMAGE keeps it", x.status(0), 20);
        due("no IMAGE keeps it", x.status(1), 40);
        peninsula(x, "person 1 1;");
        peninsula(x, "");
        due("a PENINSULA leaves it", x.status(0), 20);
        due("a PENINSULA leaves it", x.status(1), 40);
        nobody("the first, without PERSONS", () -> x.kin(0));
        due("one more", x.status(0), 21);
    }

    private static void sixWhoLive() {
        says("IllegalArgumentException: also more than 5 told PERSONS who live.");
        for (String name : new String[] {"order", "fits", "look"}) {
            for (int[] with : new int[][] {{63, 0}, {63, 1}, {126, 0}, {255, 1}, {127, 2}, {256, 0}, {-1, 0}}) {
                String what = name + Arrays.toString(with);
                BorrowedStones x = eight();
                due(what, answer(x, name, with), "IllegalArgumentException");
                due("wrongs behind " + what, x.status(1), 1);
                alike(what, x, eight());
            }
            due("five who live, one dead", answer(eight(), name, 159, 0) instanceof Integer, true);
        }
    }

    private static BorrowedStones eight() {
        BorrowedStones x = on("person 9 0;".repeat(8));
        work(x, "die 7;year;die 7;");
        return x;
    }
}
