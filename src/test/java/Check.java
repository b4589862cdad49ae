import java.io.IOException;
import java.nio.ByteBuffer;
import java.nio.charset.StandardCharsets;
import java.nio.file.Files;
import java.nio.file.Path;
import java.util.Arrays;
import java.util.NoSuchElementException;

/** What the tests by hand share: texts by the TAPE, answers that are due, calls that are to be refused. */
class Check {
    static final String THREE = "person 5 10;person 5 20;person 5 30;";
    static final String FOUR = "person 9 5;person 4 10;person 2 0;person 7 20;friend 0 1;friend 2 3;most 1;";

    private static final String DOCUMENT = document();

    private static String about = "";
    private static int wrong;

    interface Call {
        Object made();
    }

    private static String document() {
        try {
            return Files.readString(Path.of("../shared/DOC.md")).replaceAll("\\s+", " ");
        } catch (IOException e) {
            throw new IllegalStateException(e);
        }
    }

    // ---- what is due

    static void part(String name) {
        about = name;
    }

    static void promise(int number) {
        part("promise " + number);
    }

    /** The sentence, in the document's own words, that the checks behind this call are of. */
    static void says(String sentence) {
        about = '"' + sentence + '"';
        if (!DOCUMENT.contains(sentence)) {
            tell("does not stand in the document");
        }
    }

    static void tell(String what) {
        wrong++;
        System.out.println(about + ": " + what);
    }

    static void due(String what, Object got, Object want) {
        if (!got.equals(want)) {
            tell(what + " answered " + got + ", due is " + want);
        }
    }

    static void due(String what, long got, long want) {
        due(what, (Object) got, (Object) want);
    }

    static void refused(String what, Class<?> by, Call call) {
        Object got;
        try {
            got = call.made();
        } catch (RuntimeException e) {
            got = e.getClass().getSimpleName();
        }
        due(what, got, by.getSimpleName());
    }

    static void illegal(String what, Call call) {
        refused(what, IllegalArgumentException.class, call);
    }

    static void nobody(String what, Call call) {
        refused(what, NoSuchElementException.class, call);
    }

    static void end(String whenAllIsWell) {
        System.out.println(wrong == 0 ? whenAllIsWell : wrong + " answers are not as due");
        if (wrong != 0) {
            System.exit(1);
        }
    }

    // ---- texts

    static int fed(BorrowedStones x, String text) {
        byte[] all = Arrays.copyOf(text.getBytes(StandardCharsets.ISO_8859_1), (text.length() + 19) / 20 * 20);
        for (int i = 0; i < all.length; i += 20) {
            ByteBuffer b = ByteBuffer.wrap(all, i, 20);
            x.feed(b.getInt(), b.getInt(), b.getInt(), b.getInt(), b.getInt());
        }
        return text.length();
    }

    static int peninsula(BorrowedStones x, String text) {
        return x.peninsula(fed(x, text));
    }

    static int law(BorrowedStones x, String text) {
        return x.law(fed(x, text));
    }

    static int work(BorrowedStones x, String text) {
        return x.work(fed(x, text));
    }

    static int book(BorrowedStones x, String text) {
        return x.book(fed(x, text));
    }

    static BorrowedStones on(String text) {
        BorrowedStones x = new BorrowedStones();
        peninsula(x, text);
        return x;
    }

    static BorrowedStones on(String text, String law) {
        BorrowedStones x = on(text);
        due("law " + law, law(x, law), 1);
        return x;
    }

    /** What a LAW makes of kind 7, DEBTS 20, 3 STONES, friend, owed 30, 4 dead, YEAR 50, number 6. */
    static int value(String law) {
        BorrowedStones x = new BorrowedStones();
        due("law " + law, law(x, law), 1);
        return x.would(7, 20, 3, 1, 30, 4, 50, 6);
    }

    // ---- faults

    static void peninsulaFault(String text, int fault, int place) {
        BorrowedStones x = on(THREE);
        due(text, peninsula(x, text), fault - 10);
        due("place in " + text, x.fault(), place);
        due("persons behind " + text, x.told(0), 3);
        due("tape behind " + text, x.count(1), 0);
    }

    static void lawFault(String text, int fault, int place) {
        BorrowedStones x = on(THREE, "42");
        due(text, law(x, text), fault - 10);
        due("place in " + text, x.fault(), place);
        due("will behind " + text, x.will(0, 1), 42);
    }

    static void workFault(String text, int fault, int place) {
        BorrowedStones x = on(THREE);
        due(text, work(x, text), fault - 10);
        due("place in " + text, x.fault(), place);
        due("works behind " + text, x.count(2), 0);
        due("living behind " + text, x.told(1), 7);
    }

    static void bookFault(String text, int fault, int place) {
        BorrowedStones x = on(THREE);
        book(x, "1 2;2 0;");
        due(text, book(x, text), fault - 10);
        due("place in " + text, x.fault(), place);
        due("lines behind " + text, x.told(9), 2);
    }
}
