import java.util.NoSuchElementException;

/** A peninsula on which nobody is buried in his own name; see README.md for how it is used. */
public final class BorrowedStones {
    public static final int NONE = -1;

    private static final int PEOPLE = 8;
    private static final int CLAUSES = 60;
    private static final int TAPE_BYTES = 600;
    private static final int LAW_BYTES = 150;
    private static final int WORK_BYTES = 150;
    private static final int BOOK_BYTES = 60;
    private static final int OPEN_AT_ONCE = 6;
    private static final int DEBTS_MOST = 999;
    private static final int WILL_MOST = 99;
    private static final int WILL_TO_LEND = 10;
    private static final int LAST_YEAR = 900;
    private static final int WORKS = 16;
    private static final int WORKS_FULL = -20;
    private static final int IMAGES = 3;
    private static final int ORDERED = 5;
    private static final int ORDERS = 120;
    private static final int NAMES = 12;

    private static final int WRONG_PLACE = 1;
    private static final int WRONG_NUMBER = 2;
    private static final int TOO_MANY = 3;

    private static final int DIE = 0;
    private static final int LEND = 1;
    private static final int PAY = 2;
    private static final int OWE = 3;
    private static final int YEAR = 4;
    private static final int AGAIN = 5;
    private static final int END = 6;

    private final Text text = new Text();
    private final Land land = new Land();
    private final Land draftLand = new Land();
    private final Law law = new Law();
    private final Law draftLaw = new Law();
    private final LawReader lawReader = new LawReader();
    private final Steps steps = new Steps();
    private final Book book = new Book();
    private final Book draftBook = new Book();
    private final State state = new State(land, law);
    private final State trial = new State(land, law);
    private final Past past = new Past();
    private final Orders orders = new Orders();
    private final Ways ways = new Ways();
    private final long[] likely = new long[NAMES + 1];
    private int drawing;
    private int refusedSteps;
    private int strangers;
    private int wrongs;

    public BorrowedStones() {
        law.becomePlain();
        state.begin();
    }

    // ---- texts

    public int feed(int a, int b, int c, int d, int e) {
        if (!text.takesTwenty()) {
            return NONE;
        }
        text.takeNumber(a);
        text.takeNumber(b);
        text.takeNumber(c);
        text.takeNumber(d);
        text.takeNumber(e);
        return text.bytes;
    }

    public int peninsula(int n) throws IllegalArgumentException {
        need(n >= 0 && n <= text.bytes);
        text.begin(n);
        draftLand.readFrom(text);
        if (!text.isSound()) {
            return text.faultLessTen();
        }
        land.take(draftLand);
        law.becomePlain();
        book.clear();
        past.clear();
        state.begin();
        refusedSteps = 0;
        return land.persons;
    }

    public int law(int n) throws IllegalArgumentException {
        need(n >= 0 && n <= text.bytes && n <= LAW_BYTES);
        text.begin(n);
        lawReader.readFrom(text, draftLaw);
        if (!text.isSound()) {
            return text.faultLessTen();
        }
        law.take(draftLaw);
        return 1;
    }

    public int work(int n) throws IllegalArgumentException {
        need(n >= 0 && n <= text.bytes && n <= WORK_BYTES);
        text.begin(n);
        if (past.isFull()) {
            return WORKS_FULL;
        }
        steps.readFrom(text, land.persons);
        if (!text.isSound()) {
            return text.faultLessTen();
        }
        past.keepWork(state);
        steps.run(state);
        refusedSteps = steps.refused;
        return steps.done;
    }

    public int book(int n) throws IllegalArgumentException {
        need(n >= 0 && n <= text.bytes && n <= BOOK_BYTES);
        text.begin(n);
        draftBook.readFrom(text, land.persons);
        if (!text.isSound()) {
            return text.faultLessTen();
        }
        book.take(draftBook);
        return book.lines;
    }

    public int fault() {
        return text.faultPlace;
    }

    public int undo() {
        if (past.works <= 0) {
            return -1;
        }
        past.undoWork(state);
        refusedSteps = 0;
        return past.works;
    }

    // ---- how things are

    public int told(int what) throws IllegalArgumentException {
        need(what >= 0 && what <= 11);
        switch (what) {
            case 0: return land.persons;
            case 1: return state.living();
            case 2: return state.nameless();
            case 3: return state.year;
            case 4: return state.named();
            case 5: return state.allDebts();
            case 6: return state.debtsOfDead();
            case 7: return state.heirs();
            case 8: return land.most;
            case 9: return book.lines;
            case 10: return refusedSteps;
            default: return state.longestChain();
        }
    }

    public int person(int person, int what) throws NoSuchElementException, IllegalArgumentException {
        needPerson(person);
        need(what >= 0 && what <= 7);
        switch (what) {
            case 0: return Rows.at(land.kinds, person);
            case 1: return Rows.at(state.debts, person);
            case 2: return state.lives(person) ? 1 : 0;
            case 3: return Rows.at(state.under, person);
            case 4: return state.stonesOf(person);
            case 5: return state.directlyUnder(person);
            case 6: return Rows.at(land.friends, person);
            default: return Rows.at(state.died, person);
        }
    }

    public int will(int person, int other) throws NoSuchElementException {
        needPerson(person);
        needPerson(other);
        return state.willOf(person, other);
    }

    public boolean lends(int person, int other) throws NoSuchElementException {
        needPerson(person);
        needPerson(other);
        return state.lendsTo(person, other);
    }

    public int would(int kind, int debts, int stones, int friend, int owed, int dead, int year, int person)
            throws IllegalArgumentException {
        need(kind >= 0 && kind <= 9 && debts >= 0 && debts <= DEBTS_MOST);
        need(stones >= 0 && stones <= 8 && (friend == 0 || friend == 1));
        need(owed >= 0 && owed <= DEBTS_MOST && dead >= 0 && dead <= PEOPLE);
        need(year >= 0 && year <= LAST_YEAR && person >= 0 && person < PEOPLE);
        Rows.put(law.facts, Law.KIND, kind);
        Rows.put(law.facts, Law.DEBTS, debts);
        Rows.put(law.facts, Law.STONES, stones);
        Rows.put(law.facts, Law.FRIEND, friend);
        Rows.put(law.facts, Law.OWED, owed);
        Rows.put(law.facts, Law.DEAD, dead);
        Rows.put(law.facts, Law.NOW, year);
        Rows.put(law.facts, Law.PERSON, person);
        return law.answer();
    }

    public int lender(int person) throws NoSuchElementException {
        needPerson(person);
        return state.lives(person) ? state.heirOf(person) : NONE;
    }

    public int ahead(int n, int what) throws IllegalArgumentException {
        need(n >= 0 && n <= 99 && what >= 0 && what <= 2);
        trial.take(state);
        for (int gone = 0; gone < n; gone++) {
            trial.passYear();
        }
        switch (what) {
            case 0: return trial.allDebts();
            case 1: return trial.heired();
            default: return trial.mostInDebt();
        }
    }

    public int truly(int person) throws NoSuchElementException {
        needPerson(person);
        return state.trueName(person);
    }

    public int chain(int person) throws NoSuchElementException {
        needPerson(person);
        return state.chainLength(person);
    }

    // ---- names for many at once, and orders of deaths

    public int served(int persons, int what) throws IllegalArgumentException {
        need(areTold(persons) && (what == 0 || what == 1));
        ways.search(state, persons);
        return what == 0 ? ways.bestServed : ways.bestWills;
    }

    public int giver(int person, int persons) throws NoSuchElementException, IllegalArgumentException {
        needPerson(person);
        need(areTold(persons));
        ways.search(state, persons);
        return ways.lenderOf(person);
    }

    public int order(int persons, int what) throws IllegalArgumentException {
        needOrders(persons, what);
        tryOrders();
        // Who lies under none already is no matter of the order.
        return what == 0 ? orders.fewest - Integer.bitCount(state.nameless()) : orders.firstBest;
    }

    public int fits(int persons, int what) throws IllegalArgumentException {
        needOrders(persons, what);
        tryOrders();
        return what == 0 ? orders.fitting : orders.firstFitting;
    }

    public int look(int persons, int what) throws IllegalArgumentException {
        needOrders(persons, what);
        tryOrders();
        int first = NONE;
        int fewest = NONE;
        for (int person = 0; person < land.persons; person++) {
            if (!book.tellsOf(person)) {
                int worst = orders.mostAlike(person);
                if (first == NONE || worst < fewest) {
                    first = person;
                    fewest = worst;
                }
            }
        }
        return what == 0 ? first : fewest;
    }

    // ---- neighbours, likelihood, flowers

    public int neighbours(int v, int w, int what) throws IllegalArgumentException {
        need(v >= 0 && v <= 99 && w >= 0 && w <= 99 && what >= 0 && what <= 2);
        int rests = 0;
        int first = NONE;
        int together = 0;
        for (int pair = 0; pair < 4; pair++) {
            int one = pair >> 1;
            int other = pair & 1;
            boolean oneStays = gain(one, other, v, w) >= gain(1 - one, other, v, w);
            boolean otherStays = gain(other, one, v, w) >= gain(1 - other, one, v, w);
            if (oneStays && otherStays) {
                rests++;
                if (first == NONE) {
                    first = 10 * one + other;
                    together = gain(one, other, v, w) + gain(other, one, v, w);
                }
            }
        }
        return what == 0 ? rests : what == 1 ? first : together;
    }

    public long home(int n, int k, int q, int part) throws IllegalArgumentException {
        need(n >= 0 && n <= NAMES && k >= 0 && k <= NAMES + 1);
        need(q >= 0 && q <= 16 && (part == 0 || part == 1));
        weighNames(n, q);
        long above = 0;
        for (int names = k; names <= n && names < likely.length; names++) {
            above += likely[names];
        }
        // The whole is 16 to the n, so nothing but twos can be in both parts.
        long below = 1L << (4 * n);
        for (int turn = 0; turn < 64 && below > 1 && (above & 1) == 0; turn++) {
            above >>= 1;
            below >>= 1;
        }
        return part == 0 ? above : below;
    }

    public int flowers(int person, int persons, int n) throws NoSuchElementException, IllegalArgumentException {
        needPerson(person);
        need(areTold(persons) && n >= 0 && n <= 99);
        if ((persons >> person & 1) == 0) {
            return 0;
        }
        int bound = PEOPLE;
        while (bound > 0 && state.stonesUpTo(persons, bound) > n) {
            bound--;
        }
        return Math.min(state.stonesOf(person), bound);
    }

    // ---- single questions

    public int honoured(int what) throws IllegalArgumentException {
        need(what == 0 || what == 1);
        int first = NONE;
        int most = 0;
        for (int person = 0; person < land.persons; person++) {
            int stones = state.stonesOf(person);
            if (stones > most) {
                first = person;
                most = stones;
            }
        }
        return first == NONE || what == 0 ? first : most;
    }

    public int sued(int what) throws IllegalArgumentException {
        need(what == 0 || what == 1);
        int first = state.mostInDebt();
        int owed = Rows.at(state.debts, first);
        if (owed <= 0) {
            return NONE;
        }
        return what == 0 ? first : owed;
    }

    public int free(int person) throws NoSuchElementException {
        needPerson(person);
        int bits = 0;
        for (int other = 0; other < land.persons; other++) {
            if (land.areFriends(person, other) && state.lives(other) && state.hasRoom(other)) {
                bits |= 1 << other;
            }
        }
        return bits;
    }

    public int kin(int person) throws NoSuchElementException {
        needPerson(person);
        int bits = 1 << person;
        for (int turn = 0; turn < PEOPLE; turn++) {
            for (int one = 0; one < land.persons; one++) {
                if ((bits >> one & 1) == 1) {
                    bits |= Rows.at(land.friends, one);
                }
            }
        }
        return bits;
    }

    public int willing(int person) throws NoSuchElementException {
        needPerson(person);
        int bits = 0;
        for (int other = 0; other < land.persons; other++) {
            if (state.lendsTo(other, person)) {
                bits |= 1 << other;
            }
        }
        return bits;
    }

    public int below(int person) throws NoSuchElementException {
        needPerson(person);
        int bits = state.directlyUnder(person);
        for (int turn = 0; turn < PEOPLE; turn++) {
            for (int one = 0; one < land.persons; one++) {
                if ((bits >> one & 1) == 1) {
                    bits |= state.directlyUnder(one);
                }
            }
        }
        return bits;
    }

    public int debtless() {
        int bits = 0;
        for (int person = 0; person < land.persons; person++) {
            if (Rows.at(state.debts, person) == 0) {
                bits |= 1 << person;
            }
        }
        return bits;
    }

    public int after(int person, int what) throws NoSuchElementException, IllegalArgumentException {
        needPerson(person);
        need(what == 0 || what == 1);
        int heir = state.lives(person) ? state.heirOf(person) : NONE;
        if (heir == NONE) {
            return NONE;
        }
        if (what == 0) {
            return state.stonesOf(heir) + 1;
        }
        return Math.min(DEBTS_MOST, Rows.at(state.debts, heir) + Rows.at(state.debts, person));
    }

    public int latest(int what) throws IllegalArgumentException {
        need(what == 0 || what == 1);
        int first = NONE;
        int year = NONE;
        for (int person = 0; person < land.persons; person++) {
            // Who lives died in no year, which is NONE and below all years.
            if (Rows.at(state.died, person) > year) {
                first = person;
                year = Rows.at(state.died, person);
            }
        }
        return what == 0 ? first : year;
    }

    // ---- centuries

    public int century(int seed, int years, int q, int what) throws IllegalArgumentException {
        need(years >= 1 && years <= 96 && q >= 0 && q <= 16 && what >= 0 && what <= 3);
        passCentury(seed, years, q);
        switch (what) {
            case 0: return trial.living();
            case 1: return trial.nameless();
            case 2: return trial.allDebts();
            default: return trial.longestChain();
        }
    }

    public int span(int seed, int many, int years, int q, int what, int person) throws IllegalArgumentException {
        need(many >= 1 && many <= 20 && years >= 1 && years <= 96 && q >= 0 && q <= 16);
        need(what >= 0 && what <= 2 && person >= 0 && person < land.persons);
        int fewest = PEOPLE + 1;
        int most = 0;
        int alive = 0;
        for (int turn = 0; turn < many; turn++) {
            passCentury(seed + turn, years, q);
            int left = Integer.bitCount(trial.nameless());
            fewest = Math.min(fewest, left);
            most = Math.max(most, left);
            alive += trial.lives(person) ? 1 : 0;
        }
        return what == 0 ? fewest : what == 1 ? most : alive;
    }

    // ---- images, refusals

    public int image() {
        if (past.images >= IMAGES) {
            return -1;
        }
        past.keepImage(state);
        return past.images;
    }

    public int restore() {
        if (past.images <= 0) {
            return -1;
        }
        past.restoreImage(state);
        refusedSteps = 0;
        return past.images;
    }

    public int status(int what) {
        return what == 0 ? strangers : what == 1 ? wrongs : NONE;
    }

    public int count(int what) {
        switch (what) {
            case 0: return past.images;
            case 1: return text.bytes;
            case 2: return past.works;
            default: return NONE;
        }
    }

    // ---- what the calls share

    private void needPerson(int person) {
        if (person < 0 || person >= land.persons) {
            strangers++;
            throw new NoSuchElementException();
        }
    }

    private void need(boolean right) {
        if (!right) {
            wrongs++;
            throw new IllegalArgumentException();
        }
    }

    private void needOrders(int persons, int what) {
        need(areTold(persons) && (what == 0 || what == 1));
        need(orders.gather(state, persons));
    }

    private boolean areTold(int persons) {
        return persons >= 0 && persons < 1 << land.persons;
    }

    private void tryOrders() {
        orders.forget();
        boolean more = true;
        for (int turn = 0; turn < ORDERS && more; turn++) {
            trial.take(state);
            for (int place = 0; place < orders.many; place++) {
                trial.does(DIE, Rows.at(orders.line, place), 0);
            }
            orders.note(trial, book.isRightFor(trial));
            more = orders.step();
        }
    }

    /** What one has who does such a thing, the other one such a thing (0 lends, 1 not). */
    private static int gain(int own, int others, int v, int w) {
        if (others == 0) {
            return v;
        }
        return own == 0 ? 0 - w : 0;
    }

    /** Fills likely: of the 16 to the n ways, by how many just so many of n names are not called out. */
    private void weighNames(int n, int q) {
        for (int names = 0; names < likely.length; names++) {
            likely[names] = names == 0 ? 1 : 0;
        }
        for (int turn = 0; turn < n; turn++) {
            for (int names = likely.length - 1; names >= 0; names--) {
                long fewer = names > 0 ? likely[names - 1] : 0;
                likely[names] = likely[names] * q + fewer * (16 - q);
            }
        }
    }

    private void passCentury(int seed, int years, int q) {
        trial.take(state);
        drawing = seed;
        for (int gone = 0; gone < years; gone++) {
            if (land.persons > 0) {
                if (drawn(16) < q) {
                    trial.does(DIE, drawn(land.persons), 0);
                }
                int one = drawn(land.persons);
                int other = drawn(land.persons);
                trial.does(LEND, one, other);
            }
            trial.passYear();
        }
    }

    private int drawn(int by) {
        drawing = drawing * 1103515245 + 12345;
        int bits = drawing >>> 16 & 32767;
        return by > 0 ? bits % by : 0;
    }

    /** Rows that are looked at and written to only where they are: elsewhere 0 is read, nothing is written. */
    private static final class Rows {
        static int at(int[] row, int place) {
            return row != null && place >= 0 && place < row.length ? row[place] : 0;
        }

        static void put(int[] row, int place, int value) {
            if (row != null && place >= 0 && place < row.length) {
                row[place] = value;
            }
        }

        static void copy(int[] from, int start, int[] to, int place, int many) {
            for (int i = 0; i < many; i++) {
                put(to, place + i, at(from, start + i));
            }
        }
    }

    /** The TAPE, and the reading of the text that is taken from it: the first FAULT stops all further reading. */
    private static final class Text {
        private static final int NUMBER_TOO_BIG = 10000;

        final int[] tape = new int[TAPE_BYTES];
        int bytes;
        int end;
        int place;
        int wordStart;
        int numberStart;
        int fault;
        int faultPlace = NONE;

        boolean takesTwenty() {
            return bytes + 20 <= TAPE_BYTES;
        }

        void takeNumber(int number) {
            for (int shift = 24; shift >= 0; shift -= 8) {
                Rows.put(tape, bytes, number >>> shift & 255);
                bytes++;
            }
        }

        /** The first n bytes are to be read; the TAPE is empty at once, but its row keeps them till the next feed. */
        void begin(int n) {
            end = n;
            bytes = 0;
            place = 0;
            fault = 0;
            faultPlace = NONE;
        }

        boolean isSound() {
            return fault == 0;
        }

        int faultLessTen() {
            return fault - 10;
        }

        void blame(int what, int where) {
            if (fault == 0) {
                fault = what;
                faultPlace = where;
            }
        }

        /** The byte that comes next behind blanks; NONE at the end. */
        int nextByte() {
            while (place < end && Rows.at(tape, place) == ' ') {
                place++;
            }
            return place < end ? Rows.at(tape, place) : NONE;
        }

        boolean hasMore() {
            return fault == 0 && nextByte() != NONE;
        }

        void pass() {
            place++;
        }

        void expect(char sign) {
            if (fault != 0) {
                return;
            }
            if (nextByte() == sign) {
                place++;
            } else {
                blame(WRONG_PLACE, place);
            }
        }

        static boolean isDigit(int sign) {
            return sign >= '0' && sign <= '9';
        }

        static boolean isLetter(int sign) {
            return sign >= 'a' && sign <= 'z';
        }

        /** A number from least to most; NONE behind a FAULT. */
        int number(int least, int most) {
            if (fault != 0) {
                return NONE;
            }
            if (!isDigit(nextByte())) {
                blame(WRONG_PLACE, place);
                return NONE;
            }
            numberStart = place;
            int value = 0;
            while (place < end && isDigit(Rows.at(tape, place))) {
                value = Math.min(NUMBER_TOO_BIG, value * 10 + Rows.at(tape, place) - '0');
                place++;
            }
            if (value < least || value > most) {
                blame(WRONG_NUMBER, numberStart);
                return NONE;
            }
            return value;
        }

        /** Goes behind the next word, which isWord() then knows; who finds it unknown, or none, blames wordStart. */
        void word() {
            if (fault != 0) {
                return;
            }
            nextByte();
            wordStart = place;
            while (place < end && isLetter(Rows.at(tape, place))) {
                place++;
            }
        }

        boolean isWord(String name) {
            if (fault != 0 || place - wordStart != name.length()) {
                return false;
            }
            for (int i = 0; i < name.length(); i++) {
                if (Rows.at(tape, wordStart + i) != name.charAt(i)) {
                    return false;
                }
            }
            return true;
        }
    }

    /** What a PENINSULA tells. */
    private static final class Land {
        int persons;
        int most = 3;
        final int[] kinds = new int[PEOPLE];
        final int[] firstDebts = new int[PEOPLE];
        final int[] friends = new int[PEOPLE];

        void take(Land other) {
            persons = other.persons;
            most = other.most;
            Rows.copy(other.kinds, 0, kinds, 0, PEOPLE);
            Rows.copy(other.firstDebts, 0, firstDebts, 0, PEOPLE);
            Rows.copy(other.friends, 0, friends, 0, PEOPLE);
        }

        boolean areFriends(int one, int other) {
            return other >= 0 && other < PEOPLE && (Rows.at(friends, one) >> other & 1) == 1;
        }

        void readFrom(Text text) {
            persons = 0;
            most = 3;
            for (int clause = 0; clause <= CLAUSES && text.hasMore(); clause++) {
                readClause(text, clause);
            }
        }

        private void readClause(Text text, int clause) {
            text.word();
            boolean isPerson = text.isWord("person");
            boolean isFriend = text.isWord("friend");
            if (!isPerson && !isFriend && !text.isWord("most")) {
                text.blame(WRONG_PLACE, text.wordStart);
            } else if (clause >= CLAUSES || isPerson && persons >= PEOPLE) {
                text.blame(TOO_MANY, text.wordStart);
            } else if (isPerson) {
                readPerson(text);
            } else if (isFriend) {
                readFriends(text);
            } else {
                most = text.number(1, 4);
            }
            text.expect(';');
        }

        private void readPerson(Text text) {
            Rows.put(kinds, persons, text.number(0, 9));
            Rows.put(firstDebts, persons, text.number(0, 60));
            Rows.put(friends, persons, 0);
            persons++;
        }

        private void readFriends(Text text) {
            int one = text.number(0, persons - 1);
            int other = text.number(0, persons - 1);
            if (one == other) {
                text.blame(WRONG_NUMBER, text.numberStart);
            }
            if (text.isSound()) {
                Rows.put(friends, one, Rows.at(friends, one) | 1 << other);
                Rows.put(friends, other, Rows.at(friends, other) | 1 << one);
            }
        }
    }

    /** A LAW as a row of codes, each behind what it works on: numbers, then facts, then signs. */
    private static final class Law {
        static final int FACT = 1000;
        static final int SIGN = 2000;
        static final int KIND = 0;
        static final int DEBTS = 1;
        static final int STONES = 2;
        static final int FRIEND = 3;
        static final int OWED = 4;
        static final int DEAD = 5;
        static final int NOW = 6;
        static final int PERSON = 7;

        final int[] codes = new int[LAW_BYTES];
        final int[] heap = new int[LAW_BYTES];
        final int[] facts = new int[PERSON + 1];
        int length;

        void clear() {
            length = 0;
        }

        void add(int code) {
            if (length < LAW_BYTES) {
                Rows.put(codes, length, code);
                length++;
            }
        }

        void take(Law other) {
            length = other.length;
            Rows.copy(other.codes, 0, codes, 0, other.length);
        }

        /** The LAW that is in force where none is told. */
        void becomePlain() {
            clear();
            add(FACT + KIND);
            add(3);
            add(SIGN + '*');
            add(FACT + FRIEND);
            add(9);
            add(SIGN + '*');
            add(SIGN + '+');
            add(FACT + STONES);
            add(5);
            add(SIGN + '*');
            add(SIGN + '-');
        }

        /** The WILL for the facts that are in their row. */
        int answer() {
            int height = 0;
            for (int i = 0; i < length; i++) {
                int code = Rows.at(codes, i);
                if (code < SIGN) {
                    Rows.put(heap, height, code < FACT ? code : Rows.at(facts, code - FACT));
                    height++;
                } else {
                    height--;
                    int left = Rows.at(heap, height - 1);
                    Rows.put(heap, height - 1, joined(code - SIGN, left, Rows.at(heap, height)));
                }
            }
            int value = Rows.at(heap, 0);
            return value < 0 ? 0 : value > WILL_MOST ? WILL_MOST : value;
        }

        private static int joined(int sign, int left, int right) {
            switch (sign) {
                case '+': return left + right;
                case '-': return left - right;
                case '*': return left * right;
                case '/': return right == 0 ? 0 : left / right;
                case '%': return right == 0 ? 0 : left % right;
                case LawReader.LEAST_END: return left < right ? left : right;
                default: return left > right ? left : right;
            }
        }
    }

    /** Reads a LAW from left to right; signs and brackets wait in a row until what they need has come. */
    private static final class LawReader {
        static final int LEAST = 'l';
        static final int LEAST_END = 'L';
        static final int MOST = 'm';
        static final int MOST_END = 'M';

        final int[] waiting = new int[LAW_BYTES];
        int height;
        int open;

        void readFrom(Text text, Law draft) {
            height = 0;
            open = 0;
            draft.clear();
            boolean wantsUnit = true;
            for (int turn = 0; turn < LAW_BYTES && text.hasMore(); turn++) {
                wantsUnit = wantsUnit ? readUnit(text, draft) : readSign(text, draft);
            }
            if (wantsUnit || open > 0) {
                text.blame(WRONG_PLACE, text.place);
            }
            settle(draft, 1);
        }

        /** Reads a number, a fact or what opens brackets; answers whether a unit is wanted next. */
        private boolean readUnit(Text text, Law draft) {
            int sign = text.nextByte();
            if (Text.isDigit(sign)) {
                draft.add(text.number(0, Law.FACT - 1));
                return false;
            }
            if (sign == '(') {
                push(text, '(', text.place);
                text.pass();
                return true;
            }
            text.word();
            int fact = factOf(text);
            if (fact != NONE) {
                draft.add(Law.FACT + fact);
                return false;
            }
            if (text.isWord("least")) {
                push(text, LEAST, text.wordStart);
            } else if (text.isWord("most")) {
                push(text, MOST, text.wordStart);
            } else {
                text.blame(WRONG_PLACE, text.wordStart);
            }
            text.expect('[');
            return true;
        }

        private void push(Text text, int bracket, int where) {
            if (open >= OPEN_AT_ONCE) {
                text.blame(TOO_MANY, where);
            }
            open++;
            hold(bracket);
        }

        private void hold(int sign) {
            if (height < LAW_BYTES) {
                Rows.put(waiting, height, sign);
                height++;
            }
        }

        private static int factOf(Text text) {
            return text.isWord("kind") ? Law.KIND
                : text.isWord("debts") ? Law.DEBTS
                : text.isWord("stones") ? Law.STONES
                : text.isWord("friend") ? Law.FRIEND
                : text.isWord("owed") ? Law.OWED
                : text.isWord("dead") ? Law.DEAD
                : text.isWord("year") ? Law.NOW
                : text.isWord("person") ? Law.PERSON
                : NONE;
        }

        /** Reads what may stand behind a unit; answers whether a unit is wanted next. */
        private boolean readSign(Text text, Law draft) {
            int sign = text.nextByte();
            int rank = rankOf(sign);
            if (rank > 0) {
                settle(draft, rank);
                hold(sign);
                text.pass();
                return true;
            }
            settle(draft, 1);
            int bracket = height > 0 ? Rows.at(waiting, height - 1) : NONE;
            if (sign == ',' && (bracket == LEAST || bracket == MOST)) {
                Rows.put(waiting, height - 1, bracket == LEAST ? LEAST_END : MOST_END);
                text.pass();
                return true;
            }
            if (sign == ']' && (bracket == LEAST_END || bracket == MOST_END)) {
                draft.add(Law.SIGN + bracket);
            } else if (sign != ')' || bracket != '(') {
                text.blame(WRONG_PLACE, text.place);
                return false;
            }
            height--;
            open--;
            text.pass();
            return false;
        }

        private static int rankOf(int sign) {
            switch (sign) {
                case '+':
                case '-': return 1;
                case '*':
                case '/':
                case '%': return 2;
                default: return 0;
            }
        }

        /** Puts down the signs that wait in the innermost brackets and bind as tightly as this rank, or tighter. */
        private void settle(Law draft, int rank) {
            while (height > 0 && rankOf(Rows.at(waiting, height - 1)) >= rank) {
                height--;
                draft.add(Law.SIGN + Rows.at(waiting, height));
            }
        }
    }

    /** WORK as rows of STEPS: an again knows its end, the end its again. */
    private static final class Steps {
        private static final int BEGUN_MOST = 200;
        private static final int TURNS = 1000000;

        final int[] deeds = new int[WORK_BYTES];
        final int[] firsts = new int[WORK_BYTES];
        final int[] seconds = new int[WORK_BYTES];
        final int[] starts = new int[OPEN_AT_ONCE];
        final int[] rounds = new int[OPEN_AT_ONCE];
        int length;
        int open;
        int done;
        int refused;

        void readFrom(Text text, int persons) {
            length = 0;
            open = 0;
            for (int turn = 0; turn < WORK_BYTES && text.hasMore(); turn++) {
                if (open > 0 && text.nextByte() == ']') {
                    text.pass();
                    closeAgain();
                    text.expect(';');
                } else {
                    readStep(text, persons);
                }
            }
            if (open > 0) {
                text.blame(WRONG_PLACE, text.place);
            }
        }

        private void readStep(Text text, int persons) {
            text.word();
            if (text.isWord("again")) {
                openAgain(text);
                return;
            }
            if (text.isWord("die")) {
                add(DIE, text.number(0, persons - 1), 0);
            } else if (text.isWord("lend")) {
                int one = text.number(0, persons - 1);
                add(LEND, one, text.number(0, persons - 1));
            } else if (text.isWord("pay")) {
                int one = text.number(0, persons - 1);
                add(PAY, one, text.number(1, 60));
            } else if (text.isWord("owe")) {
                int one = text.number(0, persons - 1);
                add(OWE, one, text.number(1, 60));
            } else if (text.isWord("year")) {
                add(YEAR, 0, 0);
            } else {
                text.blame(WRONG_PLACE, text.wordStart);
            }
            text.expect(';');
        }

        private void openAgain(Text text) {
            if (open >= OPEN_AT_ONCE) {
                text.blame(TOO_MANY, text.wordStart);
            }
            int many = text.number(0, 60);
            text.expect('[');
            Rows.put(starts, open, length);
            open++;
            add(AGAIN, many, 0);
        }

        private void closeAgain() {
            open--;
            int start = Rows.at(starts, open);
            Rows.put(seconds, start, length);
            add(END, start, 0);
        }

        private void add(int deed, int first, int second) {
            if (length < WORK_BYTES) {
                Rows.put(deeds, length, deed);
                Rows.put(firsts, length, first);
                Rows.put(seconds, length, second);
                length++;
            }
        }

        void run(State state) {
            done = 0;
            refused = 0;
            open = 0;
            int begun = 0;
            int line = 0;
            for (int turn = 0; turn < TURNS && line < length && begun < BEGUN_MOST; turn++) {
                int deed = Rows.at(deeds, line);
                if (deed == END) {
                    line = behindEnd(line);
                } else if (deed == AGAIN) {
                    begun++;
                    line = behindAgain(line);
                } else {
                    begun++;
                    if (state.does(deed, Rows.at(firsts, line), Rows.at(seconds, line))) {
                        done++;
                    } else {
                        refused++;
                    }
                    line++;
                }
            }
        }

        private int behindAgain(int line) {
            int many = Rows.at(firsts, line);
            if (many <= 0) {
                return Rows.at(seconds, line) + 1;
            }
            Rows.put(rounds, open, many);
            open++;
            return line + 1;
        }

        private int behindEnd(int line) {
            int left = Rows.at(rounds, open - 1) - 1;
            if (left > 0) {
                Rows.put(rounds, open - 1, left);
                return Rows.at(firsts, line) + 1;
            }
            open--;
            return line + 1;
        }
    }

    /** A BOOK: how many STONES each PERSON bears, NONE of whom it tells nothing. */
    private static final class Book {
        final int[] stones = new int[PEOPLE];
        int lines;

        void clear() {
            lines = 0;
            for (int person = 0; person < stones.length; person++) {
                stones[person] = NONE;
            }
        }

        void take(Book other) {
            lines = other.lines;
            Rows.copy(other.stones, 0, stones, 0, PEOPLE);
        }

        boolean tellsOf(int person) {
            return lines > 0 && Rows.at(stones, person) != NONE;
        }

        boolean isRightFor(State state) {
            for (int person = 0; person < PEOPLE; person++) {
                if (tellsOf(person) && state.stonesOf(person) != Rows.at(stones, person)) {
                    return false;
                }
            }
            return true;
        }

        void readFrom(Text text, int persons) {
            clear();
            for (int line = 0; line <= PEOPLE && text.hasMore(); line++) {
                int person = text.number(0, persons - 1);
                if (text.isSound() && tellsOf(person)) {
                    text.blame(WRONG_NUMBER, text.numberStart);
                }
                Rows.put(stones, person, text.number(0, 8));
                lines++;
                text.expect(';');
            }
        }
    }

    /** All that WORK changes, and what is asked of it by the PENINSULA and the LAW. */
    private static final class State {
        static final int CELLS = 3 * PEOPLE + 1;

        private final Land land;
        private final Law law;
        final int[] debts = new int[PEOPLE];
        final int[] under = new int[PEOPLE];
        final int[] died = new int[PEOPLE];
        int year;

        State(Land land, Law law) {
            this.land = land;
            this.law = law;
        }

        void begin() {
            year = 0;
            for (int person = 0; person < PEOPLE; person++) {
                Rows.put(debts, person, person < land.persons ? Rows.at(land.firstDebts, person) : 0);
                Rows.put(under, person, NONE);
                Rows.put(died, person, NONE);
            }
        }

        void take(State other) {
            year = other.year;
            Rows.copy(other.debts, 0, debts, 0, PEOPLE);
            Rows.copy(other.under, 0, under, 0, PEOPLE);
            Rows.copy(other.died, 0, died, 0, PEOPLE);
        }

        void writeTo(int[] row, int start) {
            Rows.copy(debts, 0, row, start, PEOPLE);
            Rows.copy(under, 0, row, start + PEOPLE, PEOPLE);
            Rows.copy(died, 0, row, start + 2 * PEOPLE, PEOPLE);
            Rows.put(row, start + 3 * PEOPLE, year);
        }

        void readFrom(int[] row, int start) {
            Rows.copy(row, start, debts, 0, PEOPLE);
            Rows.copy(row, start + PEOPLE, under, 0, PEOPLE);
            Rows.copy(row, start + 2 * PEOPLE, died, 0, PEOPLE);
            year = Rows.at(row, start + 3 * PEOPLE);
        }

        boolean lives(int person) {
            return person >= 0 && person < land.persons && Rows.at(died, person) == NONE;
        }

        boolean isDead(int person) {
            return person >= 0 && person < land.persons && Rows.at(died, person) != NONE;
        }

        int living() {
            int bits = 0;
            for (int person = 0; person < land.persons; person++) {
                if (lives(person)) {
                    bits |= 1 << person;
                }
            }
            return bits;
        }

        int nameless() {
            int bits = 0;
            for (int person = 0; person < land.persons; person++) {
                if (isDead(person) && Rows.at(under, person) == NONE) {
                    bits |= 1 << person;
                }
            }
            return bits;
        }

        int named() {
            int many = 0;
            for (int person = 0; person < PEOPLE; person++) {
                if (Rows.at(under, person) != NONE) {
                    many++;
                }
            }
            return many;
        }

        private int howManyDead() {
            int many = 0;
            for (int person = 0; person < died.length; person++) {
                if (died[person] != NONE) {
                    many++;
                }
            }
            return many;
        }

        int stonesOf(int person) {
            int many = 0;
            for (int other = 0; other < under.length; other++) {
                if (under[other] == person) {
                    many++;
                }
            }
            return many;
        }

        /** STONES of told PERSONS together, of each no more than a bound. */
        int stonesUpTo(int persons, int bound) {
            int sum = 0;
            for (int person = 0; person < land.persons; person++) {
                if ((persons >> person & 1) == 1) {
                    sum += Math.min(bound, stonesOf(person));
                }
            }
            return sum;
        }

        int directlyUnder(int person) {
            int bits = 0;
            for (int other = 0; other < land.persons; other++) {
                if (Rows.at(under, other) == person) {
                    bits |= 1 << other;
                }
            }
            return bits;
        }

        int allDebts() {
            int sum = 0;
            for (int person = 0; person < debts.length; person++) {
                sum += debts[person];
            }
            return sum;
        }

        int debtsOfDead() {
            int sum = 0;
            for (int person = 0; person < land.persons; person++) {
                if (isDead(person)) {
                    sum += Rows.at(debts, person);
                }
            }
            return sum;
        }

        /** The first PERSON of most DEBTS; NONE without PERSONS. */
        int mostInDebt() {
            int first = NONE;
            for (int person = 0; person < land.persons; person++) {
                if (first == NONE || Rows.at(debts, person) > Rows.at(debts, first)) {
                    first = person;
                }
            }
            return first;
        }

        /** How many more may have a NAME. */
        int roomOf(int person) {
            return land.most - stonesOf(person);
        }

        boolean hasRoom(int person) {
            return stonesOf(person) < land.most;
        }

        int willOf(int person, int other) {
            int[] facts = law.facts;
            Rows.put(facts, Law.KIND, Rows.at(land.kinds, person));
            Rows.put(facts, Law.DEBTS, Rows.at(debts, person));
            Rows.put(facts, Law.STONES, stonesOf(person));
            Rows.put(facts, Law.FRIEND, land.areFriends(person, other) ? 1 : 0);
            Rows.put(facts, Law.OWED, Rows.at(debts, other));
            Rows.put(facts, Law.DEAD, howManyDead());
            Rows.put(facts, Law.NOW, year);
            Rows.put(facts, Law.PERSON, person);
            return law.answer();
        }

        private boolean couldLend(int person, int other) {
            return person != other && lives(person) && hasRoom(person);
        }

        boolean lendsTo(int person, int other) {
            return couldLend(person, other) && willOf(person, other) >= WILL_TO_LEND;
        }

        /** The LENDER of one who lives, did it die now: while this is asked, it is one of the dead. */
        int heirOf(int person) {
            int before = Rows.at(died, person);
            Rows.put(died, person, year);
            int heir = NONE;
            int most = WILL_TO_LEND - 1;
            for (int other = 0; other < land.persons; other++) {
                if (couldLend(other, person)) {
                    int will = willOf(other, person);
                    if (will > most) {
                        heir = other;
                        most = will;
                    }
                }
            }
            Rows.put(died, person, before);
            return heir;
        }

        /** Whose NAMES those who live would have. */
        int heirs() {
            int bits = 0;
            for (int person = 0; person < land.persons; person++) {
                int heir = lives(person) ? heirOf(person) : NONE;
                if (heir != NONE) {
                    bits |= 1 << heir;
                }
            }
            return bits;
        }

        /** Who of those who live would have a NAME. */
        int heired() {
            int bits = 0;
            for (int person = 0; person < land.persons; person++) {
                if (lives(person) && heirOf(person) != NONE) {
                    bits |= 1 << person;
                }
            }
            return bits;
        }

        /** Does a STEP; answers false, with nothing changed, if it is REFUSED. */
        boolean does(int deed, int person, int number) {
            switch (deed) {
                case DIE:
                    if (!lives(person)) {
                        return false;
                    }
                    int heir = heirOf(person);
                    Rows.put(died, person, year);
                    if (heir != NONE) {
                        takeName(person, heir);
                    }
                    return true;
                case LEND:
                    if (!isDead(number) || Rows.at(under, number) != NONE || !lendsTo(person, number)) {
                        return false;
                    }
                    takeName(number, person);
                    return true;
                case PAY:
                    if (Rows.at(debts, person) <= 0) {
                        return false;
                    }
                    Rows.put(debts, person, Math.max(0, Rows.at(debts, person) - number));
                    return true;
                case OWE:
                    if (!lives(person) || Rows.at(debts, person) >= DEBTS_MOST) {
                        return false;
                    }
                    owes(person, number);
                    return true;
                case YEAR:
                    if (year >= LAST_YEAR) {
                        return false;
                    }
                    passYear();
                    return true;
                default:
                    return false;
            }
        }

        private void owes(int person, int more) {
            Rows.put(debts, person, Math.min(DEBTS_MOST, Rows.at(debts, person) + more));
        }

        private void takeName(int dead, int lender) {
            Rows.put(under, dead, lender);
            owes(lender, Rows.at(debts, dead));
            Rows.put(debts, dead, 0);
        }

        void passYear() {
            for (int person = 0; person < land.persons; person++) {
                if (lives(person)) {
                    owes(person, stonesOf(person));
                }
            }
            year++;
        }

        /** TRUE. Who lies under a NAME died before that one did, so the way has an end. */
        int trueName(int person) {
            int name = Rows.at(under, person);
            for (int turn = 0; turn < PEOPLE && isDead(name); turn++) {
                name = Rows.at(under, name);
            }
            return name;
        }

        int chainLength(int person) {
            int name = Rows.at(under, person);
            int many = 0;
            for (int turn = 0; turn < PEOPLE && name != NONE; turn++) {
                many++;
                name = Rows.at(under, name);
            }
            return many;
        }

        int longestChain() {
            int longest = 0;
            for (int person = 0; person < land.persons; person++) {
                longest = Math.max(longest, chainLength(person));
            }
            return longest;
        }
    }

    /** States ahead of WORKS, the oldest first, and IMAGES: how many WORKS, the state, the states ahead of them. */
    private static final class Past {
        private static final int WORK_CELLS = WORKS * State.CELLS;
        private static final int IMAGE_CELLS = 1 + State.CELLS + WORK_CELLS;

        final int[] workRow = new int[WORK_CELLS];
        final int[] imageRow = new int[IMAGES * IMAGE_CELLS];
        int works;
        int images;

        void clear() {
            works = 0;
            images = 0;
        }

        boolean isFull() {
            return works >= WORKS;
        }

        void keepWork(State state) {
            if (works < WORKS) {
                state.writeTo(workRow, works * State.CELLS);
                works++;
            }
        }

        void undoWork(State state) {
            if (works > 0) {
                works--;
                state.readFrom(workRow, works * State.CELLS);
            }
        }

        void keepImage(State state) {
            if (images < IMAGES) {
                int start = images * IMAGE_CELLS;
                Rows.put(imageRow, start, works);
                state.writeTo(imageRow, start + 1);
                Rows.copy(workRow, 0, imageRow, start + 1 + State.CELLS, WORK_CELLS);
                images++;
            }
        }

        void restoreImage(State state) {
            if (images > 0) {
                images--;
                int start = images * IMAGE_CELLS;
                works = Rows.at(imageRow, start);
                state.readFrom(imageRow, start + 1);
                Rows.copy(imageRow, start + 1 + State.CELLS, workRow, 0, WORK_CELLS);
            }
        }
    }

    /** The orders of some PERSONS, gone through from the first to the last, and what was found on the way. */
    private static final class Orders {
        private static final int COUNTS = PEOPLE + 1;

        final int[] line = new int[ORDERED];
        final int[] alike = new int[PEOPLE * COUNTS];
        int many;
        int fewest;
        int firstBest;
        int fitting;
        int firstFitting;

        /** Takes up who lives of told PERSONS, in their first order; answers false if they are too many. */
        boolean gather(State state, int persons) {
            many = 0;
            int left = persons & state.living();
            if (Integer.bitCount(left) > ORDERED) {
                return false;
            }
            for (int person = 0; person < PEOPLE; person++) {
                if ((left >> person & 1) == 1) {
                    Rows.put(line, many, person);
                    many++;
                }
            }
            return true;
        }

        /** Goes on to the next order, place by place; answers false behind the last one. */
        boolean step() {
            int place = many - 2;
            while (place >= 0 && Rows.at(line, place) > Rows.at(line, place + 1)) {
                place--;
            }
            if (place < 0) {
                return false;
            }
            int other = many - 1;
            while (other > place && Rows.at(line, other) < Rows.at(line, place)) {
                other--;
            }
            swap(place, other);
            int from = place + 1;
            int to = many - 1;
            while (from < to) {
                swap(from, to);
                from++;
                to--;
            }
            return true;
        }

        private void swap(int one, int other) {
            int kept = Rows.at(line, one);
            Rows.put(line, one, Rows.at(line, other));
            Rows.put(line, other, kept);
        }

        int digits() {
            int number = 0;
            for (int place = many - 1; place >= 0; place--) {
                number = number * 8 + Rows.at(line, place);
            }
            return number;
        }

        void forget() {
            fewest = PEOPLE + 1;
            firstBest = 0;
            fitting = 0;
            firstFitting = NONE;
            for (int i = 0; i < alike.length; i++) {
                alike[i] = 0;
            }
        }

        /** Keeps how all is behind this order, and whether it is as the BOOK has it. */
        void note(State behind, boolean isRight) {
            int left = Integer.bitCount(behind.nameless());
            if (left < fewest) {
                fewest = left;
                firstBest = digits();
            }
            if (isRight) {
                firstFitting = fitting == 0 ? digits() : firstFitting;
                fitting++;
                countStones(behind);
            }
        }

        private void countStones(State behind) {
            for (int person = 0; person < PEOPLE; person++) {
                int cell = person * COUNTS + behind.stonesOf(person);
                Rows.put(alike, cell, Rows.at(alike, cell) + 1);
            }
        }

        /** By how many orders that fit, at the worst, a PERSON bears alike many STONES. */
        int mostAlike(int person) {
            int most = 0;
            for (int stones = 0; stones < COUNTS; stones++) {
                most = Math.max(most, Rows.at(alike, person * COUNTS + stones));
            }
            return most;
        }
    }

    /** All ways to give names to many at once, and the best of them. */
    private static final class Ways {
        final int[] asking = new int[PEOPLE];
        final int[] offers = new int[PEOPLE * PEOPLE];
        final int[] room = new int[PEOPLE];
        final int[] chosen = new int[PEOPLE];
        final int[] best = new int[PEOPLE];
        int many;
        int bestServed;
        int bestWills;

        void search(State state, int persons) {
            many = 0;
            bestServed = NONE;
            bestWills = NONE;
            for (int person = 0; person < PEOPLE; person++) {
                Rows.put(room, person, state.roomOf(person));
                if ((persons >> person & 1) == 1 && state.lives(person)) {
                    Rows.put(asking, many, person);
                    takeOffers(state, many, persons);
                    many++;
                }
            }
            give(0, 0, 0);
        }

        private void takeOffers(State state, int place, int persons) {
            int person = Rows.at(asking, place);
            for (int other = 0; other < PEOPLE; other++) {
                boolean mayGive = (persons >> other & 1) == 0 && state.lendsTo(other, person);
                Rows.put(offers, place * PEOPLE + other, mayGive ? state.willOf(other, person) : NONE);
            }
        }

        /** Tries all that can be given from this place on; the least PERSONS come first, none last. */
        private void give(int place, int served, int wills) {
            if (place >= many || place >= PEOPLE) {
                keepIfBetter(served, wills);
                return;
            }
            for (int other = 0; other < PEOPLE; other++) {
                int will = Rows.at(offers, place * PEOPLE + other);
                int left = Rows.at(room, other);
                if (will != NONE && left > 0) {
                    Rows.put(room, other, left - 1);
                    Rows.put(chosen, place, other);
                    give(place + 1, served + 1, wills + will);
                    Rows.put(room, other, left);
                }
            }
            Rows.put(chosen, place, NONE);
            give(place + 1, served, wills);
        }

        private void keepIfBetter(int served, int wills) {
            if (served > bestServed || served == bestServed && wills > bestWills) {
                bestServed = served;
                bestWills = wills;
                Rows.copy(chosen, 0, best, 0, many);
            }
        }

        int lenderOf(int person) {
            for (int place = 0; place < many; place++) {
                if (Rows.at(asking, place) == person) {
                    return Rows.at(best, place);
                }
            }
            return NONE;
        }
    }
}
