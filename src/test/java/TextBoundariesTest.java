/** The boundaries that the document names for the TAPE and for its four texts, sentence by sentence. */
public final class TextBoundariesTest extends Check {
    private static final String[] CALLS = {"peninsula", "law", "work", "book"};
    private static final String EIGHT = "person 1 1;".repeat(8);

    public static void main(String[] args) {
        newObject();
        orderOfBytes();
        fullTape();
        firstBytes();
        lengthsOfTexts();
        textsOfAllTheirBytes();
        emptyTexts();
        clauses();
        persons();
        friends();
        most();
        numbers();
        noPersons();
        words();
        signs();
        blanks();
        endsTooEarly();
        placesOfFaults();
        firstFromTheLeft();
        leastOfOnePlace();
        sixOpen();
        linesOfBook();
        takenOnlyWithoutFault();
        placeOfLatest();
        end("the texts keep their boundaries");
    }

    private static int tell(BorrowedStones x, String call, String text) {
        switch (call) {
            case "peninsula": return peninsula(x, text);
            case "law": return law(x, text);
            case "work": return work(x, text);
            default: return book(x, text);
        }
    }

    private static int read(BorrowedStones x, String call, int n) {
        switch (call) {
            case "peninsula": return x.peninsula(n);
            case "law": return x.law(n);
            case "work": return x.work(n);
            default: return x.book(n);
        }
    }

    /** A text on a PENINSULA of three PERSONS is without a FAULT. */
    private static void sound(String call, String text) {
        BorrowedStones x = on(THREE);
        int got = tell(x, call, text);
        if (got < 0 || x.fault() != -1) {
            tell(call + " of " + text + " answered " + got + ", with a fault at " + x.fault() + ", due is none");
        }
    }

    private static void faulty(String call, String text, int fault, int place) {
        switch (call) {
            case "peninsula": peninsulaFault(text, fault, place); break;
            case "law": lawFault(text, fault, place); break;
            case "work": workFault(text, fault, place); break;
            default: bookFault(text, fault, place); break;
        }
    }

    // ---- promises 1, 2

    private static void newObject() {
        says("A PENINSULA without CLAUSES.");
        BorrowedStones x = new BorrowedStones();
        due("PERSONS", x.told(0), 0);
        nobody("the first PERSON", () -> x.person(0, 0));
        due("3 without most", x.told(8), 3);
        due("the YEAR", x.told(3), 0);
        due("nothing to undo", x.undo(), -1);
        due("no IMAGES", x.restore(), -1);
        due("lines", x.told(9), 0);
        due("the LAW without one", x.would(5, 0, 1, 1, 0, 0, 0, 0), 19);
        due("the TAPE", x.count(1), 0);
        due("FAULT", x.fault(), -1);
        due("a WORK without PERSONS", work(x, "year;again 3[year;];"), 4);
        due("refused", x.status(1), 0);
    }

    private static void orderOfBytes() {
        says("of each number the highest first");
        for (int place = 0; place < 20; place++) {
            BorrowedStones x = new BorrowedStones();
            due("feed", fed(x, " ".repeat(place) + "X" + " ".repeat(19 - place)), 20);
            due("what is no blank", x.peninsula(20), -9);
            due("its place", x.fault(), place);
        }
        BorrowedStones x = new BorrowedStones();
        due("least", x.feed(0x6c656173, 0x745b3937, 0x2c6d6f73, 0x745b332c, 0x38385d5d), 20);
        due("least[97,most[3,88]]", x.law(20), 1);
        due("its value", x.would(0, 0, 0, 0, 0, 0, 0, 0), 88);
        due("bytes of 255", x.feed(-1, -1, -1, -1, -1), 20);
        due("bytes of 255", x.peninsula(1), -9);
        due("bytes of 128", x.feed(Integer.MIN_VALUE, 0, 0, 0, 0), 20);
        due("bytes of 128", x.peninsula(1), -9);
        due("a byte of 160 is no blank", x.feed(0xa0a0a0a0, 0, 0, 0, 0), 20);
        due("a byte of 160 is no blank", x.peninsula(1), -9);
    }

    private static void fullTape() {
        says("how many there are; NONE, doing nothing, if there would be more than 600");
        BorrowedStones x = new BorrowedStones();
        String text = "person 1 1;" + " ".repeat(582) + "most 4;";
        for (int many = 20; many <= 600; many += 20) {
            fed(x, text.substring(many - 20, many));
            due("bytes", x.count(1), many);
        }
        due("the 31st", x.feed(0, 0, 0, 0, 0), -1);
        due("the 32nd", x.feed(1, 2, 3, 4, 5), -1);
        due("bytes", x.count(1), 600);
        due("the text is as it was", x.peninsula(600), 1);
        due("to its last clause", x.told(8), 4);
        due("the TAPE is empty", x.count(1), 0);
        due("and takes more", x.feed(0, 0, 0, 0, 0), 20);
        BorrowedStones y = new BorrowedStones();
        for (int many = 20; many <= 580; many += 20) {
            due("feed", y.feed(0, 0, 0, 0, 0), many);
        }
        due("up to 600", y.feed(0, 0, 0, 0, 0), 600);
        due("beyond", y.feed(0, 0, 0, 0, 0), -1);
    }

    // ---- promises 3 to 6: n

    private static void firstBytes() {
        says("The first n bytes of the TAPE (empty then)");
        for (String call : CALLS) {
            BorrowedStones x = on(THREE);
            fed(x, " ".repeat(3) + "?" + " ".repeat(36));
            read(x, call, 3);
            due(call + " reads no further", x.fault(), call.equals("law") ? 3 : -1);
            due(call + " leaves nothing", x.count(1), 0);
            fed(x, " ".repeat(20));
            due(call + " ahead, then what is fed", x.peninsula(20), 0);
        }
        BorrowedStones x = new BorrowedStones();
        fed(x, "most 4;most 2;");
        due("clauses", x.peninsula(7), 0);
        due("the first alone", x.told(8), 4);
    }

    private static void lengthsOfTexts() {
        String[] says = {"IllegalArgumentException: n is not 0 to the TAPE's bytes (it stays).", "(n to 150): 1.",
            "(n to 150), which is done", "(n to 60): how many lines."};
        for (int i = 0; i < CALLS.length; i++) {
            says(says[i]);
            int most = i == 0 ? 600 : i == 3 ? 60 : 150;
            for (int fed : new int[] {0, 20, most / 20 * 20, Math.min(600, most / 20 * 20 + 20), 600}) {
                int last = Math.min(fed, most);
                for (int n : new int[] {-1, last + 1, 601, Integer.MIN_VALUE, Integer.MAX_VALUE}) {
                    refusedLength(i, fed, n);
                }
                BorrowedStones x = on(THREE);
                fed(x, " ".repeat(fed));
                int got = read(x, CALLS[i], last);
                due(CALLS[i] + " of " + last + " bytes of " + fed, got, i == 1 ? -9 : 0);
                due("the TAPE", x.count(1), 0);
            }
        }
    }

    private static void refusedLength(int call, int fed, int n) {
        BorrowedStones x = on(THREE);
        fed(x, " ".repeat(fed));
        illegal(CALLS[call] + " of " + n + " bytes of " + fed, () -> read(x, CALLS[call], n));
        due("the TAPE stays", x.count(1), fed);
        due("refused", x.status(1), 1);
    }

    private static void textsOfAllTheirBytes() {
        says("A PENINSULA is a text of up to 600 bytes");
        String most = "most 1;".repeat(59);
        BorrowedStones x = new BorrowedStones();
        fed(x, most + " ".repeat(180) + "most   0004;");
        due("cut by one", x.peninsula(599), -9);
        due("where it ends too early", x.fault(), 599);
        fed(x, most + " ".repeat(175) + "most   0004;");
        due("whole", x.peninsula(600), 0);
        due("the last clause", x.told(8), 4);
        says("A LAW is a text of up to 150 bytes");
        String law = "12" + "+1".repeat(74);
        fed(x, law);
        due("cut by one", x.law(149), -9);
        due("where it ends too early", x.fault(), 149);
        fed(x, law);
        due("whole", x.law(150), 1);
        due("its value", x.would(0, 0, 0, 0, 0, 0, 0, 0), 86);
        fed(x, law + "+1");
        illegal("one more", () -> x.law(151));
        says("WORK is a text of up to 150 bytes");
        BorrowedStones z = new BorrowedStones();
        fed(z, "year;".repeat(30));
        due("cut by one", z.work(149), -9);
        due("where it ends too early", z.fault(), 149);
        fed(z, "year;".repeat(30));
        due("whole", z.work(150), 30);
        fed(z, "year;".repeat(31));
        illegal("one more", () -> z.work(151));
        says("A BOOK is a text of up to 60 bytes");
        BorrowedStones y = on(EIGHT);
        String book = "0 1;1 1;2 1;3 1;4 1;5 1;6 1;7" + " ".repeat(10) + "0".repeat(19) + "8;";
        fed(y, book);
        due("cut by one", y.book(59), -9);
        due("where it ends too early", y.fault(), 59);
        fed(y, book);
        due("whole", y.book(60), 8);
        fed(y, book + " ");
        illegal("one more", () -> y.book(61));
    }

    private static void emptyTexts() {
        says("A PENINSULA is a text of up to 600 bytes: { CLAUSE \";\" }");
        BorrowedStones x = on(THREE);
        due("no CLAUSE", x.peninsula(0), 0);
        due("no PERSON", x.told(0), 0);
        due("no FAULT", x.fault(), -1);
        x = on(THREE);
        due("blanks alone", peninsula(x, "  "), 0);
        due("no PERSON", x.told(0), 0);
        says("A LAW is a text of up to 150 bytes: E");
        faulty("law", "", 1, 0);
        faulty("law", " ", 1, 1);
        says("WORK is a text of up to 150 bytes: { STEP \";\" }");
        x = on(THREE);
        due("no STEP", work(x, ""), 0);
        due("a WORK", x.count(2), 1);
        due("blanks alone", work(x, " "), 0);
        due("a WORK", x.count(2), 2);
        due("no STEP in an again", work(x, "again 60[];again 0[ ] ;"), 0);
        says("A BOOK is a text of up to 60 bytes: { A N \";\" }");
        due("a line", book(x, "0 1;"), 1);
        due("no line", book(x, ""), 0);
        due("lines", x.told(9), 0);
        due("a line", book(x, "0 1;"), 1);
        due("blanks alone", book(x, " "), 0);
        due("lines", x.told(9), 0);
    }

    // ---- CLAUSES

    private static void clauses() {
        says("{ CLAUSE \";\" }, at most 60.");
        BorrowedStones x = new BorrowedStones();
        String two = "person 1 1;person 2 2;";
        due("60", peninsula(x, two + "most 2;".repeat(58)), 2);
        due("60 and blanks", peninsula(x, two + "most 2;".repeat(58) + "   "), 2);
        due("60 of friends", peninsula(x, two + "friend0 1;".repeat(57) + "most4;"), 2);
        due("the 60th", x.told(8), 4);
        due("a 61st", peninsula(x, two + "most 2;".repeat(58) + "most 2;"), -7);
        due("at its word", x.fault(), 22 + 58 * 7);
        due("a 61st behind blanks", peninsula(x, two + "most 2;".repeat(58) + "  person 1 1;"), -7);
        due("at its word", x.fault(), 22 + 58 * 7 + 2);
        due("a 61st", peninsula(x, two + "most 2;".repeat(58) + "friend 0 1;"), -7);
        due("at its word", x.fault(), 22 + 58 * 7);
        due("a 61st that ends behind its word", peninsula(x, two + "most 2;".repeat(58) + "most"), -7);
        due("at its word", x.fault(), 22 + 58 * 7);
        due("all stays", x.told(8), 4);
    }

    private static void persons() {
        says("PERSONS, numbered from 0 on, 8 at most");
        BorrowedStones x = new BorrowedStones();
        StringBuilder all = new StringBuilder();
        for (int p = 0; p < 8; p++) {
            all.append("person ").append(p + 1).append(' ').append(10 * p % 60).append(';');
            due("persons", peninsula(x, all.toString()), p + 1);
            due("kind of the last", x.person(p, 0), p + 1);
            due("debts of the last", x.person(p, 1), 10 * p % 60);
            int none = p + 1;
            nobody("one more", () -> x.person(none, 0));
        }
        due("kind of the first", x.person(0, 0), 1);
        due("a ninth", peninsula(x, all + "person 1 1;"), -7);
        due("at its word", x.fault(), all.length());
        due("a ninth behind others", peninsula(x, all + "most 1; friend 0 1; person"), -7);
        due("at its word", x.fault(), all.length() + 20);
        due("eight stay", x.told(0), 8);
    }

    private static void friends() {
        says("PERSONS A and B are friends, both told ahead, B not A");
        BorrowedStones x = new BorrowedStones();
        due("ahead", peninsula(x, "person 1 1;person 1 1;friend 0 1;"), 2);
        due("friends", x.person(0, 6), 2);
        due("friends", x.person(1, 6), 1);
        faulty("peninsula", "person 1 1;friend 0 1;person 1 1;", 2, 20);
        faulty("peninsula", "person 1 1;friend 1 0;person 1 1;", 2, 18);
        faulty("peninsula", "friend 0 0;person 1 1;", 2, 7);
        faulty("peninsula", "person 1 1;friend 0 0;", 2, 20);
        faulty("peninsula", EIGHT + "friend 7 7;", 2, 97);
        faulty("peninsula", EIGHT + "friend 7 8;", 2, 97);
        faulty("peninsula", EIGHT + "friend 8 7;", 2, 95);
        due("the last two", peninsula(x, EIGHT + "friend 6 7;friend 7 0;"), 8);
        due("friends", x.person(7, 6), 65);
        due("friends", x.person(0, 6), 128);
        says("told once more, either way round, it is as once");
        due("once more", peninsula(x, "person 1 1;person 1 1;friend 1 0;friend 0 1;friend 1 0;"), 2);
        due("friends", x.person(0, 6), 2);
        due("friends", x.person(1, 6), 1);
    }

    private static void most() {
        says("1 to 4; 3 without; the last counts");
        BorrowedStones x = new BorrowedStones();
        for (int n = 1; n <= 4; n++) {
            due("most", peninsula(x, "most 2;most 3;most " + n + ";"), 0);
            due("N of most", x.told(8), n);
        }
        due("a new one", peninsula(x, "person 1 1;"), 1);
        due("without", x.told(8), 3);
        faulty("peninsula", "most 4;most 0;", 2, 12);
        faulty("peninsula", "most 5;most 4;", 2, 5);
    }

    // ---- numbers

    /** A place for a number, on a PENINSULA of three PERSONS: what is ahead, from where to where, what is behind. */
    private static void slot(String call, String ahead, int least, int most, String behind) {
        sound(call, ahead + least + behind);
        sound(call, ahead + most + behind);
        sound(call, ahead + "000000000000000000000" + least + behind);
        sound(call, ahead + "0000000000" + most + behind);
        int place = ahead.length();
        if (least > 0) {
            faulty(call, ahead + (least - 1) + behind, 2, place);
        }
        faulty(call, ahead + "   " + (most + 1) + behind, 2, place + 3);
        faulty(call, ahead + "0" + (most + 1) + behind, 2, place);
        faulty(call, ahead + (4294967296L + least) + behind, 2, place);
        faulty(call, ahead + "18446744073709551617" + behind, 2, place);
        faulty(call, ahead + "-" + least + behind, 1, place);
        faulty(call, ahead + "x" + least + behind, 1, place);
    }

    private static void numbers() {
        says("KIND K, 0 to 9");
        slot("peninsula", "person ", 0, 9, " 1;");
        says("DEBTS D, 0 to 60");
        slot("peninsula", "person 1 ", 0, 60, ";");
        says("\"friend\" A B");
        slot("peninsula", THREE + "friend ", 0, 2, " 1;");
        slot("peninsula", THREE + "friend 1 ", 0, 2, ";");
        says("a NAME is lent to no more than N, 1 to 4");
        slot("peninsula", "most ", 1, 4, ";");
        says("N (0 to 999)");
        slot("law", "1+", 0, 999, "");
        slot("law", "1+", 0, 999, "*2");
        slot("law", "least[", 0, 999, ",1]");
        slot("law", "most[1,", 0, 999, "]");
        slot("law", "(", 0, 999, ")");
        says("STEP (P, A, B: PERSONS told)");
        slot("work", "die ", 0, 2, ";");
        slot("work", "lend ", 0, 2, " 1;");
        slot("work", "lend 1 ", 0, 2, ";");
        slot("work", "pay ", 0, 2, " 1;");
        slot("work", "owe ", 0, 2, " 1;");
        says("\"pay\" A N (N 1 to 60)");
        slot("work", "pay 1 ", 1, 60, ";");
        says("\"owe\" A N (N 1 to 60)");
        slot("work", "owe 1 ", 1, 60, ";");
        says("(N 0 to 60)");
        slot("work", "again ", 0, 60, "[die 0;];");
        slot("work", "again 0[again ", 0, 60, "[];];");
        says("PERSON A, one told");
        slot("book", "", 0, 2, " 1;");
        says("bears N STONES (0 to 8)");
        slot("book", "1 ", 0, 8, ";");
        valuesOfNumbers();
    }

    private static void valuesOfNumbers() {
        says("Numbers: digits, as many as stand there");
        BorrowedStones x = on("person 9 60;person 0 0;person 00009 000060;");
        for (int p = 0; p < 3; p++) {
            due("KIND", x.person(p, 0), p == 1 ? 0 : 9);
            due("DEBTS", x.person(p, 1), p == 1 ? 0 : 60);
        }
        due("999", value("999-900"), 99);
        due("as many as stand there", value("0000000000000000000000000000098"), 98);
        faulty("law", "0000000000000000000000000001000", 2, 0);
        due("pay", work(x, "pay 0 60;pay 2 1;"), 2);
        due("all", x.person(0, 1), 0);
        due("one", x.person(2, 1), 59);
        due("owe", work(x, "owe 0 1;owe 1 60;"), 2);
        due("one", x.person(0, 1), 1);
        due("60", x.person(1, 1), 60);
        due("60 times", work(x, "again 60[year;];"), 60);
        due("not at all", work(x, "again 0[year;];"), 0);
        due("the YEAR", x.told(3), 60);
    }

    private static void noPersons() {
        says("both told ahead");
        BorrowedStones x = new BorrowedStones();
        due("none is told", peninsula(x, "friend 0 1;"), -8);
        due("place", x.fault(), 7);
        says("STEP (P, A, B: PERSONS told)");
        for (String step : new String[] {"die 0;", "lend 0 0;", "pay 0 1;", "owe 0 1;"}) {
            due("none is told: " + step, work(x, step), -8);
            due("place", x.fault(), step.indexOf('0'));
        }
        due("a WORK with a FAULT is none", x.count(2), 0);
        says("PERSON A, one told");
        due("none is told", book(x, "0 0;"), -8);
        due("place", x.fault(), 0);
        BorrowedStones y = on(EIGHT);
        due("the eighth", work(y, "die 7;lend 7 7;pay 7 1;owe 7 1;"), 2);
        due("a ninth", work(y, "die 8;"), -8);
        due("the eighth", book(y, "7 0;"), 1);
        due("a ninth", book(y, "8 0;"), -8);
    }

    // ---- words, signs, blanks

    private static void word(String call, String ahead, String word, String behind) {
        int place = ahead.length();
        sound(call, ahead + word + behind);
        sound(call, ahead + "  " + word + " " + behind);
        faulty(call, ahead + word + "s" + behind, 1, place);
        faulty(call, ahead + " x" + word + behind, 1, place + 1);
        faulty(call, ahead + word.substring(1) + behind, 1, place);
        faulty(call, ahead + word.substring(0, word.length() - 1) + behind, 1, place);
        faulty(call, ahead + word.substring(0, 1) + " " + word.substring(1) + behind, 1, place);
        faulty(call, ahead + (char) (word.charAt(0) - 32) + word.substring(1) + behind, 1, place);
        for (int i = 0; i < word.length(); i++) {
            faulty(call, ahead + word.substring(0, i) + "q" + word.substring(i + 1) + behind, 1, place);
        }
        String upperAtTheEnd = word.substring(0, word.length() - 1) + (char) (word.charAt(word.length() - 1) - 32);
        faulty(call, ahead + upperAtTheEnd + behind, 1, place);
    }

    private static void words() {
        says("WORDS: small letters, as many as stand there");
        word("peninsula", "most 1;", "person", " 1 1;");
        word("peninsula", THREE, "friend", " 1 0;");
        word("peninsula", "", "most", " 1;");
        for (String fact : new String[] {"kind", "debts", "stones", "friend", "owed", "dead", "year", "person"}) {
            word("law", "1+", fact, "*2");
        }
        word("law", "1+", "least", "[1,2]");
        word("law", "1+", "most", "[1,2]");
        word("work", "year;", "die", " 1;");
        word("work", "", "lend", " 1 0;");
        word("work", "", "pay", " 1 1;");
        word("work", "again 2[", "owe", " 1 1;];");
        word("work", "", "year", ";");
        word("work", "die 0;", "again", " 1[];");
        says("CLAUSE: \"person\" K D");
        for (String other : new String[] {"die 0;", "kind 1;", "year;", "persons 1 1;", "7;", "(;", "most1;;"}) {
            faulty("peninsula", "most1;" + other, 1, other.equals("most1;;") ? 12 : 6);
        }
        says("STEP (P, A, B: PERSONS told): \"die\" P");
        for (String other : new String[] {"person 1 1;", "most 1;", "kind;", "7;", "];"}) {
            faulty("work", "year;" + other, 1, 5);
        }
        says("U: N (0 to 999)");
        for (String other : new String[] {"die", "again", "will", "names", "a", "z"}) {
            faulty("law", "1+" + other, 1, 2);
        }
    }

    private static void signs() {
        for (int sign = 0; sign < 256; sign++) {
            String s = String.valueOf((char) sign);
            boolean digit = sign >= '0' && sign <= '9';
            boolean letter = sign >= 'a' && sign <= 'z';
            says("E: T { + or - T }. T: U { * or / or % U }. U: N (0 to 999)");
            if (digit || "+-*/%".contains(s)) {
                sound("law", "7" + s + "2");
            } else {
                faulty("law", "7" + s + "2", 1, sign == ' ' ? 2 : 1);
            }
            if (digit) {
                sound("law", s);
            } else {
                faulty("law", s, 1, sign == ' ' || sign == '(' ? 1 : 0);
            }
            says("{ CLAUSE \";\" }");
            if (sign == ';') {
                sound("peninsula", "most 1" + s);
            } else {
                faulty("peninsula", "most 1" + s, digit ? 2 : 1, digit ? 5 : sign == ' ' ? 7 : 6);
            }
            says("blanks (32) may stand ahead of all these, and at the end");
            if (sign == ' ' || sign == '0') {
                sound("peninsula", "most" + s + "1;");
                sound("work", "year;again" + s + "1[];");
            } else if (!digit) {
                faulty("peninsula", "most" + s + "1;", 1, letter ? 0 : 4);
                faulty("work", "year;again" + s + "1[];", 1, letter ? 5 : 10);
            }
            if (sign == ' ') {
                sound("book", "0" + s + "1;" + s);
            } else {
                faulty("peninsula", "most 1;" + s, 1, 7);
                if (!digit) {
                    faulty("book", "0" + s + "1;", 1, 1);
                    faulty("book", "0 1;" + s, 1, 4);
                }
            }
        }
    }

    private static void blanks() {
        says("blanks (32) may stand ahead of all these, and at the end");
        for (int many : new int[] {1, 2, 7}) {
            String b = " ".repeat(many);
            for (String[] text : new String[][] {
                {"peninsula", "person", "1", "1", ";", "person", "1", "1", ";", "friend", "1", "0", ";", "most", "1", ";"},
                {"law", "kind", "*", "(", "7", "-", "least", "[", "3", ",", "debts", "]", ")", "%", "9"},
                {"work", "again", "2", "[", "lend", "0", "1", ";", "die", "0", ";", "]", ";", "year", ";"},
                {"book", "0", "1", ";", "1", "8", ";"}}) {
                StringBuilder all = new StringBuilder();
                for (int i = 1; i < text.length; i++) {
                    all.append(b).append(text[i]);
                }
                if (all.length() + many <= (text[0].equals("book") ? 60 : 150)) {
                    sound(text[0], all + b);
                }
            }
        }
        sound("peninsula", "person1 1;person01 1;friend0 1;most1;");
        sound("law", "kind*(7-least[3,debts])%9");
        sound("work", "again2[lend0 1;die0;];year;");
    }

    // ---- FAULTS

    /** A text cut to each of its lengths: where its FAULT 1 is then, -1 without. */
    private static void cut(String call, String text, int... places) {
        due("lengths of " + text, places.length, text.length());
        for (int n = 0; n < places.length; n++) {
            String part = text.substring(0, n);
            if (places[n] == -1) {
                sound(call, part);
            } else {
                faulty(call, part, 1, places[n]);
            }
        }
        sound(call, text);
    }

    private static void endsTooEarly() {
        says("1 what can't stand there (at the length, if the text ends too early)");
        cut("peninsula", "most 2; ", -1, 0, 0, 0, 4, 5, 6, -1);
        cut("peninsula", "person 1 2;", -1, 0, 0, 0, 0, 0, 6, 7, 8, 9, 10);
        cut("law", "least[1,2]", 0, 0, 0, 0, 0, 5, 6, 7, 8, 9);
        cut("law", "(7+ 8)", 0, 1, 2, 3, 4, 5);
        cut("law", "7 * dead", 0, -1, -1, 3, 4, 4, 4, 4);
        cut("work", "lend 0 1; ", -1, 0, 0, 0, 4, 5, 6, 7, 8, -1);
        cut("work", "again 2[year;];", -1, 0, 0, 0, 0, 5, 6, 7, 8, 8, 8, 8, 12, 13, 14);
        cut("book", "0 1;1 2;", -1, 1, 2, 3, -1, 5, 6, 7);
        faulty("peninsula", "most 2   ", 1, 9);
        faulty("law", "7+   ", 1, 5);
        faulty("work", "again 2[year;   ", 1, 16);
        faulty("book", "0 1   ", 1, 6);
    }

    private static void placesOfFaults() {
        says("FAULTS, the first from the left, at its first byte");
        faulty("peninsula", "most 1;   persons", 1, 10);
        faulty("peninsula", "most   555;", 2, 7);
        faulty("peninsula", "most 1 1;", 1, 7);
        faulty("peninsula", "most 1most 1;", 1, 6);
        faulty("law", "1 +   thousand", 1, 6);
        faulty("law", "1 + 00001000", 2, 4);
        faulty("law", "1 1", 1, 2);
        faulty("law", "1 kind", 1, 2);
        faulty("law", "kind 1", 1, 5);
        faulty("law", "kind(1)", 1, 4);
        faulty("law", "least 1", 1, 6);
        faulty("law", "least[1 2]", 1, 8);
        faulty("law", "least[1;2]", 1, 7);
        faulty("law", "least[1,2,3]", 1, 9);
        faulty("law", "least[1]", 1, 7);
        faulty("law", "most[,1]", 1, 5);
        faulty("law", "most[1,]", 1, 7);
        faulty("law", "(1,2)", 1, 2);
        faulty("law", "(1]", 1, 2);
        faulty("law", "least[1,2)", 1, 9);
        faulty("law", "least[(1,2]", 1, 8);
        faulty("law", "+1", 1, 0);
        faulty("law", "1++1", 1, 2);
        faulty("law", "()", 1, 1);
        says("E, at the end nothing more");
        faulty("law", "1;", 1, 1);
        faulty("law", "(1))", 1, 3);
        faulty("law", "1]", 1, 1);
        faulty("law", "1,", 1, 1);
        says("or \"again\" N \"[\" { STEP \";\" } \"]\"");
        faulty("work", "again 2 year;", 1, 8);
        faulty("work", "again 2(year;);", 1, 7);
        faulty("work", "again 2[year];", 1, 12);
        faulty("work", "again 2[year;]year;", 1, 14);
        faulty("work", "];", 1, 0);
        faulty("work", "again 1[];];", 1, 10);
        faulty("work", "year 1;", 1, 5);
        faulty("work", "die 0 1;", 1, 6);
        faulty("work", "lend 0;", 1, 6);
        faulty("work", ";", 1, 0);
        says("{ A N \";\" }, no A twice");
        faulty("book", ";", 1, 0);
        faulty("book", "0;", 1, 1);
        faulty("book", "0 1 2;", 1, 4);
        faulty("book", "0 1,", 1, 3);
        faulty("book", "a 1;", 1, 0);
    }

    private static void firstFromTheLeft() {
        says("the first from the left");
        faulty("peninsula", "most 9;x", 2, 5);
        faulty("peninsula", "x;most 9;", 1, 0);
        faulty("peninsula", "person 10 61;", 2, 7);
        faulty("peninsula", "person 9 61 ?", 2, 9);
        faulty("peninsula", "person 9 60 ?person 10;", 1, 12);
        faulty("peninsula", EIGHT + "person 10 61;", 3, 88);
        faulty("peninsula", EIGHT + "most 9;person", 2, 93);
        faulty("peninsula", EIGHT + "friend 9 9;", 2, 95);
        faulty("peninsula", EIGHT + "friend 3 3 person", 2, 97);
        faulty("peninsula", "friend x 0", 1, 7);
        faulty("peninsula", "most 1;".repeat(60) + "most 9;", 3, 420);
        faulty("peninsula", "most 1;".repeat(59) + "most 9;most 1;", 2, 418);
        faulty("law", "1000)", 2, 0);
        faulty("law", "1)1000", 1, 1);
        faulty("law", "(((((((1000", 3, 6);
        faulty("law", "((((((1000(", 2, 6);
        faulty("work", "die 9;x", 2, 4);
        faulty("work", "x die 9;", 1, 0);
        faulty("work", "pay 9 99;", 2, 4);
        faulty("work", "lend 3 3;", 2, 5);
        faulty("work", "again 1[".repeat(6) + "again 99[", 3, 48);
        faulty("work", "again 1[".repeat(5) + "again 99[again 1[", 2, 46);
        faulty("book", "0 9;0 9;", 2, 2);
        faulty("book", "9 9;", 2, 0);
        faulty("book", "0 1?9 9;", 1, 3);
    }

    private static void leastOfOnePlace() {
        says("of one the least");
        faulty("peninsula", "most 1;".repeat(60) + "mos 1;", 1, 420);
        faulty("peninsula", "most 1;".repeat(60) + "1;", 1, 420);
        faulty("peninsula", "most 1;".repeat(60) + ";", 1, 420);
        faulty("peninsula", EIGHT + "persons 1 1;", 1, 88);
        faulty("peninsula", EIGHT + "most 1 person 1 1;", 1, 95);
        faulty("law", "((((((1(", 1, 7);
        faulty("law", "((((((1 least", 1, 8);
        faulty("law", "((((((leas[", 1, 6);
        faulty("work", "again 1[".repeat(6) + "agains 1[", 1, 48);
        faulty("work", "again 1[".repeat(6) + "die again", 1, 52);
        faulty("work", "again 1[".repeat(6) + "year again", 1, 53);
    }

    private static void sixOpen() {
        says("or a 7th of ( least most again that is open at one time");
        for (String open : new String[] {"(", "least[", "most["}) {
            String close = open.equals("(") ? ")" : ",2]";
            sound("law", open.repeat(6) + "1" + close.repeat(6));
            faulty("law", open.repeat(7) + "1" + close.repeat(7), 3, 6 * open.length());
            faulty("law", open.repeat(6) + "  " + open + "1", 3, 6 * open.length() + 2);
            for (String other : new String[] {"(", "least", "most", "least[", "most("}) {
                faulty("law", open.repeat(6) + other, 3, 6 * open.length());
            }
            // Five stay open while seven more come and go.
            sound("law", open.repeat(5) + (open + "1" + close + "+").repeat(7) + "1" + close.repeat(5));
            faulty("law", open.repeat(5) + open + "1" + close + "+" + open + open, 3,
                7 * open.length() + close.length() + 2);
        }
        due("six of all kinds", value("most[1,(least[90,most[2,(least[80,7*0+88])]])]"), 80);
        faulty("law", "most[1,(least[90,most[2,(least[80,(7)])]])]", 3, 34);
        sound("law", "least[1,2]+".repeat(7) + "1");
        sound("law", "most[(1),(2)]+((1))+(((((1)))))");
        sound("work", "again 1[".repeat(6) + "];".repeat(6));
        BorrowedStones x = on(THREE);
        due("six are done", work(x, "again 2[again 1[again 1[again 1[again 1[again 3[year;];];];];];];"), 6);
        for (String last : new String[] {"again 1[", "  again", "again 99", "again]"}) {
            String text = "again 1[".repeat(6) + last;
            faulty("work", text, 3, 48 + last.indexOf('a'));
        }
        sound("work", "again 1[];".repeat(7));
        sound("work", "again 0[".repeat(5) + "again 1[];".repeat(7) + "];".repeat(5));
        faulty("work", "again 0[".repeat(5) + "again 1[];again 1[again", 3, 58);
    }

    private static void linesOfBook() {
        says("(B of friend as A; an A twice in a BOOK)");
        faulty("book", "0 1;0 1;", 2, 4);
        faulty("book", "0 1;1 1;2 1;  0 1;", 2, 14);
        faulty("book", "0 1;00 9;", 2, 4);
        faulty("book", "2 0;2 x", 2, 4);
        BorrowedStones x = on(EIGHT);
        due("all eight", book(x, "7 0;6 1;5 2;4 3;3 4;2 5;1 6;0 8;"), 8);
        due("a ninth", book(x, "7 0;6 1;5 2;4 3;3 4;2 5;1 6;0 8;7 0;"), -8);
        due("where", x.fault(), 32);
        due("lines", x.told(9), 8);
        due("another BOOK may tell of it", book(x, "7 0;"), 1);
        faulty("peninsula", THREE + "friend 2 2;", 2, 45);
        faulty("peninsula", THREE + "friend 2 002;", 2, 45);
    }

    private static void takenOnlyWithoutFault() {
        says("or the FAULT less 10 (all but the TAPE stays)");
        BorrowedStones x = on(THREE);
        due("more than before", peninsula(x, "person 9 9;person 9 9;friend 0 1;most 1;person 9 9;person 9 9;x"), -9);
        due("PERSONS", x.told(0), 3);
        due("KIND", x.person(0, 0), 5);
        due("DEBTS", x.person(0, 1), 10);
        due("friends", x.person(0, 6), 0);
        due("most", x.told(8), 3);
        due("the TAPE", x.count(1), 0);
        due("half a LAW", law(x, "99+"), -9);
        due("WILL", x.will(0, 1), 15);
        due("brackets that stay open", law(x, "((((((1+"), -9);
        due("are none of the next LAW", law(x, "1)"), -9);
        due("place", x.fault(), 1);
        due("signs that wait", law(x, "1+2*("), -9);
        due("are none of the next LAW", law(x, "((((((42))))))"), 1);
        due("WILL", x.will(0, 1), 42);
        due("a LAW for another one", law(x, "43"), 1);
        due("WILL", x.will(0, 1), 43);
        due("agains that stay open", work(x, "again 2[again 2[die 0;"), -9);
        due("are none of the next WORK", work(x, "];"), -9);
        due("place", x.fault(), 0);
        due("half a WORK", work(x, "die 0;year;die 3;"), -8);
        due("who lives", x.told(1), 7);
        due("the YEAR", x.told(3), 0);
        due("half a BOOK", book(x, "0 7;x"), -9);
        due("lines", x.told(9), 0);
        due("orders that are right", x.fits(1, 0), 1);
    }

    private static void placeOfLatest() {
        says("The place of the FAULT of the latest text; NONE without.");
        BorrowedStones x = new BorrowedStones();
        due("none yet", x.fault(), -1);
        String[] good = {THREE, "1", "year;", "0 1;"};
        for (int bad = 0; bad < 4; bad++) {
            for (int then = 0; then < 4; then++) {
                due("a PENINSULA", peninsula(x, THREE), 3);
                due("none", x.fault(), -1);
                due("a FAULT", tell(x, CALLS[bad], "?"), -9);
                due("its place", x.fault(), 0);
                x.feed(0, 0, 0, 0, 0);
                due("a feed leaves it", x.fault(), 0);
                int call = then;
                illegal("refused", () -> read(x, CALLS[call], 21));
                due("what is refused is no text", x.fault(), 0);
                x.peninsula(20);
                due("another PENINSULA", peninsula(x, THREE), 3);
                due("a FAULT behind three blanks", tell(x, CALLS[bad], "   ?"), -9);
                due("its place", x.fault(), 3);
                tell(x, CALLS[then], good[then]);
                due("none behind " + CALLS[then], x.fault(), -1);
            }
        }
        says("nothing is read, there is no FAULT, the TAPE is empty then");
        BorrowedStones y = on(THREE);
        for (int i = 0; i < 16; i++) {
            work(y, "year;");
        }
        due("a FAULT", law(y, "no law"), -9);
        due("its place", y.fault(), 0);
        due("full", work(y, "year;"), -20);
        due("none", y.fault(), -1);
        due("full, with what would be a FAULT", work(y, "   ?"), -20);
        due("none", y.fault(), -1);
        due("the TAPE", y.count(1), 0);
    }
}
