import java.math.BigInteger;
import java.nio.ByteBuffer;
import java.util.ArrayDeque;
import java.util.ArrayList;
import java.util.Comparator;
import java.util.Deque;
import java.util.HashMap;
import java.util.List;
import java.util.Map;
import java.util.NoSuchElementException;
import java.util.Set;
import java.util.TreeMap;
import java.util.TreeSet;

/** The document told a second time, naively and by other means than the program's, for FuzzTest to compare with. */
public final class Model {

    // ---- texts, by tokens and recursive descent

    private static final class Fault extends RuntimeException {
        final int kind;
        final int place;

        Fault(int kind, int place) {
            super(null, null, false, false);
            this.kind = kind;
            this.place = place;
        }
    }

    private record Token(String kind, String text, int place) { }

    private static final class Tokens {
        final List<Token> all = new ArrayList<>();
        int next;

        Tokens(String s) {
            int i = 0;
            while (i < s.length()) {
                int from = i;
                char c = s.charAt(i);
                if (c == ' ') {
                    i++;
                } else if (c >= '0' && c <= '9') {
                    while (i < s.length() && s.charAt(i) >= '0' && s.charAt(i) <= '9') {
                        i++;
                    }
                    all.add(new Token("number", s.substring(from, i), from));
                } else if (c >= 'a' && c <= 'z') {
                    while (i < s.length() && s.charAt(i) >= 'a' && s.charAt(i) <= 'z') {
                        i++;
                    }
                    all.add(new Token("word", s.substring(from, i), from));
                } else {
                    i++;
                    all.add(new Token("sign", s.substring(from, i), from));
                }
            }
            all.add(new Token("end", "", s.length()));
        }

        Token see() {
            return all.get(next);
        }

        boolean sees(String text) {
            return see().text().equals(text) && !see().kind().equals("end");
        }

        boolean atEnd() {
            return see().kind().equals("end");
        }

        Token take() {
            return all.get(next++);
        }

        void expect(String sign) {
            if (!sees(sign)) {
                throw new Fault(1, see().place());
            }
            next++;
        }

        int number(int from, int to) {
            if (!see().kind().equals("number")) {
                throw new Fault(1, see().place());
            }
            Token t = take();
            BigInteger v = new BigInteger(t.text());
            if (v.compareTo(BigInteger.valueOf(from)) < 0 || v.compareTo(BigInteger.valueOf(to)) > 0) {
                throw new Fault(2, t.place());
            }
            return v.intValue();
        }

        Token word(Set<String> words) {
            if (!see().kind().equals("word") || !words.contains(see().text())) {
                throw new Fault(1, see().place());
            }
            return take();
        }
    }

    private interface Expr {
        int value(Map<String, Integer> facts);
    }

    private record Step(String name, int a, int b, List<Step> body) { }

    private static final Set<String> FACTS =
        Set.of("kind", "debts", "stones", "friend", "owed", "dead", "year", "person");

    private static Expr sum(Tokens t, int open) {
        Expr e = product(t, open);
        while (t.sees("+") || t.sees("-")) {
            boolean plus = t.take().text().equals("+");
            Expr l = e;
            Expr r = product(t, open);
            e = f -> plus ? l.value(f) + r.value(f) : l.value(f) - r.value(f);
        }
        return e;
    }

    private static Expr product(Tokens t, int open) {
        Expr e = unit(t, open);
        while (t.sees("*") || t.sees("/") || t.sees("%")) {
            String op = t.take().text();
            Expr l = e;
            Expr r = unit(t, open);
            e = f -> {
                int a = l.value(f);
                int b = r.value(f);
                if (op.equals("*")) {
                    return a * b;
                }
                if (b == 0) {
                    return 0;
                }
                return op.equals("/") ? (int) ((long) a / b) : (int) ((long) a % b);
            };
        }
        return e;
    }

    private static Expr unit(Tokens t, int open) {
        if (t.see().kind().equals("number")) {
            int n = t.number(0, 999);
            return f -> n;
        }
        if (FACTS.contains(t.see().text())) {
            String name = t.take().text();
            return f -> f.get(name);
        }
        if (!t.sees("(") && !t.sees("least") && !t.sees("most")) {
            throw new Fault(1, t.see().place());
        }
        if (open == 6) {
            throw new Fault(3, t.see().place());
        }
        String which = t.take().text();
        if (which.equals("(")) {
            Expr e = sum(t, open + 1);
            t.expect(")");
            return e;
        }
        t.expect("[");
        Expr a = sum(t, open + 1);
        t.expect(",");
        Expr b = sum(t, open + 1);
        t.expect("]");
        return f -> which.equals("least") ? Math.min(a.value(f), b.value(f)) : Math.max(a.value(f), b.value(f));
    }

    private List<Step> steps(Tokens t, int open) {
        List<Step> out = new ArrayList<>();
        while (open == 0 ? !t.atEnd() : !t.sees("]")) {
            Token w = t.word(Set.of("die", "lend", "pay", "owe", "year", "again"));
            int a = 0;
            int b = 0;
            List<Step> body = null;
            switch (w.text()) {
                case "die" -> a = t.number(0, n() - 1);
                case "lend" -> {
                    a = t.number(0, n() - 1);
                    b = t.number(0, n() - 1);
                }
                case "pay", "owe" -> {
                    a = t.number(0, n() - 1);
                    b = t.number(1, 60);
                }
                case "again" -> {
                    if (open == 6) {
                        throw new Fault(3, w.place());
                    }
                    a = t.number(0, 60);
                    t.expect("[");
                    body = steps(t, open + 1);
                    t.expect("]");
                }
                default -> { }
            }
            t.expect(";");
            out.add(new Step(w.text(), a, b, body));
        }
        return out;
    }

    // ---- the state

    private static final class S {
        int[] debts;
        int[] under;
        int[] died;
        int year;

        S copy() {
            S s = new S();
            s.debts = debts.clone();
            s.under = under.clone();
            s.died = died.clone();
            s.year = year;
            return s;
        }

        boolean lives(int p) {
            return died[p] == -1;
        }

        int stones(int p) {
            int c = 0;
            for (int u : under) {
                c += u == p ? 1 : 0;
            }
            return c;
        }

        int dead() {
            int c = 0;
            for (int d : died) {
                c += d != -1 ? 1 : 0;
            }
            return c;
        }

        int nameless() {
            int bits = 0;
            for (int p = 0; p < died.length; p++) {
                bits |= !lives(p) && under[p] == -1 ? 1 << p : 0;
            }
            return bits;
        }

        int livingBits() {
            int bits = 0;
            for (int p = 0; p < died.length; p++) {
                bits |= lives(p) ? 1 << p : 0;
            }
            return bits;
        }

        int debtsTogether() {
            int sum = 0;
            for (int d : debts) {
                sum += d;
            }
            return sum;
        }

        int trueOf(int p) {
            return lives(p) || under[p] == -1 ? -1 : lives(under[p]) ? under[p] : trueOf(under[p]);
        }

        int longOf(int p) {
            return lives(p) || under[p] == -1 ? 0 : 1 + longOf(under[p]);
        }

        int longest() {
            int l = 0;
            for (int p = 0; p < died.length; p++) {
                l = Math.max(l, longOf(p));
            }
            return l;
        }
    }

    private record Image(S now, List<S> works) { }

    private final List<Integer> tape = new ArrayList<>();
    private int[] kinds = new int[0];
    private boolean[][] friends = new boolean[0][0];
    private int most = 3;
    private Expr law = Model::plain;
    private Map<Integer, Integer> lines = new TreeMap<>();
    private S s = new S();
    private List<S> works = new ArrayList<>();
    private final Deque<Image> images = new ArrayDeque<>();
    private int faultPlace = -1;
    private int refused;
    private int[] status = new int[2];

    public Model() {
        s.debts = new int[0];
        s.under = new int[0];
        s.died = new int[0];
    }

    private static int plain(Map<String, Integer> f) {
        return f.get("kind") * 3 + f.get("friend") * 9 - f.get("stones") * 5;
    }

    private int n() {
        return kinds.length;
    }

    private void person(int p) {
        if (p < 0 || p >= n()) {
            status[0]++;
            throw new NoSuchElementException();
        }
    }

    private void range(int v, int from, int to) {
        if (v < from || v > to) {
            status[1]++;
            throw new IllegalArgumentException();
        }
    }

    private TreeSet<Integer> set(int bits) {
        range(bits, 0, (1 << n()) - 1);
        TreeSet<Integer> out = new TreeSet<>();
        for (int p = 0; p < n(); p++) {
            if ((bits & 1 << p) != 0) {
                out.add(p);
            }
        }
        return out;
    }

    private interface Bit {
        boolean is(int p);
    }

    private int bits(Bit b) {
        int out = 0;
        for (int p = 0; p < n(); p++) {
            out |= b.is(p) ? 1 << p : 0;
        }
        return out;
    }

    private int willIn(S in, int a, int b) {
        Map<String, Integer> f = new HashMap<>();
        f.put("kind", kinds[a]);
        f.put("debts", in.debts[a]);
        f.put("stones", in.stones(a));
        f.put("friend", a != b && friends[a][b] ? 1 : 0);
        f.put("owed", in.debts[b]);
        f.put("dead", in.dead());
        f.put("year", in.year);
        f.put("person", a);
        return Math.max(0, Math.min(99, law.value(f)));
    }

    private boolean lendsIn(S in, int a, int b) {
        return in.lives(a) && a != b && in.stones(a) < most && willIn(in, a, b) >= 10;
    }

    private int heirIn(S in, int p) {
        if (!in.lives(p)) {
            return -1;
        }
        S then = in.copy();
        then.died[p] = then.year;
        List<Integer> who = new ArrayList<>();
        for (int a = 0; a < n(); a++) {
            if (lendsIn(then, a, p)) {
                who.add(a);
            }
        }
        // A stable sort: of alike ones the first stays ahead.
        who.sort(Comparator.comparingInt((Integer a) -> -willIn(then, a, p)));
        return who.isEmpty() ? -1 : who.get(0);
    }

    private void lie(S in, int b, int a) {
        in.under[b] = a;
        in.debts[a] = Math.min(999, in.debts[a] + in.debts[b]);
        in.debts[b] = 0;
    }

    private boolean die(S in, int p) {
        if (!in.lives(p)) {
            return false;
        }
        int heir = heirIn(in, p);
        in.died[p] = in.year;
        if (heir != -1) {
            lie(in, p, heir);
        }
        return true;
    }

    private boolean lend(S in, int a, int b) {
        if (in.lives(b) || in.under[b] != -1 || !lendsIn(in, a, b)) {
            return false;
        }
        lie(in, b, a);
        return true;
    }

    private void year(S in) {
        int[] more = new int[n()];
        for (int p = 0; p < n(); p++) {
            more[p] = in.lives(p) ? in.stones(p) : 0;
        }
        for (int p = 0; p < n(); p++) {
            in.debts[p] = Math.min(999, in.debts[p] + more[p]);
        }
        in.year++;
    }

    private boolean step(S in, Step x) {
        switch (x.name()) {
            case "die":
                return die(in, x.a());
            case "lend":
                return lend(in, x.a(), x.b());
            case "pay":
                if (in.debts[x.a()] == 0) {
                    return false;
                }
                in.debts[x.a()] = Math.max(0, in.debts[x.a()] - x.b());
                return true;
            case "owe":
                if (!in.lives(x.a()) || in.debts[x.a()] == 999) {
                    return false;
                }
                in.debts[x.a()] = Math.min(999, in.debts[x.a()] + x.b());
                return true;
            default:
                if (in.year >= 900) {
                    return false;
                }
                year(in);
                return true;
        }
    }

    private static final class Budget {
        int begun;
        int done;
        int refused;
    }

    private void run(List<Step> all, Budget b) {
        for (Step x : all) {
            if (b.begun == 200) {
                return;
            }
            b.begun++;
            if (x.name().equals("again")) {
                for (int i = 0; i < x.a() && b.begun < 200; i++) {
                    run(x.body(), b);
                }
            } else if (step(s, x)) {
                b.done++;
            } else {
                b.refused++;
            }
        }
    }

    private String text(int n, int to) {
        range(n, 0, Math.min(to, tape.size()));
        StringBuilder b = new StringBuilder();
        for (int i = 0; i < n; i++) {
            b.append((char) (int) tape.get(i));
        }
        tape.clear();
        faultPlace = -1;
        return b.toString();
    }

    private int blame(Fault f) {
        faultPlace = f.place;
        return f.kind - 10;
    }

    // ---- the face

    public int feed(int a, int b, int c, int d, int e) {
        if (tape.size() + 20 > 600) {
            return -1;
        }
        for (int v : new int[] {a, b, c, d, e}) {
            for (byte x : ByteBuffer.allocate(4).putInt(v).array()) {
                tape.add(x & 255);
            }
        }
        return tape.size();
    }

    public int peninsula(int n) {
        String text = text(n, 600);
        List<int[]> people = new ArrayList<>();
        List<int[]> pairs = new ArrayList<>();
        int newMost = 3;
        try {
            Tokens t = new Tokens(text);
            for (int clause = 1; !t.atEnd(); clause++) {
                Token w = t.word(Set.of("person", "friend", "most"));
                if (clause > 60) {
                    throw new Fault(3, w.place());
                }
                if (w.text().equals("person")) {
                    if (people.size() == 8) {
                        throw new Fault(3, w.place());
                    }
                    people.add(new int[] {t.number(0, 9), t.number(0, 60)});
                } else if (w.text().equals("friend")) {
                    int a = t.number(0, people.size() - 1);
                    int place = t.see().place();
                    int b = t.number(0, people.size() - 1);
                    if (a == b) {
                        throw new Fault(2, place);
                    }
                    pairs.add(new int[] {a, b});
                } else {
                    newMost = t.number(1, 4);
                }
                t.expect(";");
            }
        } catch (Fault f) {
            return blame(f);
        }
        int many = people.size();
        most = newMost;
        kinds = new int[many];
        friends = new boolean[many][many];
        s = new S();
        s.debts = new int[many];
        s.under = new int[many];
        s.died = new int[many];
        for (int p = 0; p < many; p++) {
            kinds[p] = people.get(p)[0];
            s.debts[p] = people.get(p)[1];
            s.under[p] = -1;
            s.died[p] = -1;
        }
        for (int[] pair : pairs) {
            friends[pair[0]][pair[1]] = true;
            friends[pair[1]][pair[0]] = true;
        }
        law = Model::plain;
        lines = new TreeMap<>();
        works = new ArrayList<>();
        images.clear();
        refused = 0;
        return many;
    }

    public int law(int n) {
        String text = text(n, 150);
        try {
            Tokens t = new Tokens(text);
            Expr e = sum(t, 0);
            if (!t.atEnd()) {
                throw new Fault(1, t.see().place());
            }
            law = e;
            return 1;
        } catch (Fault f) {
            return blame(f);
        }
    }

    public int work(int n) {
        String text = text(n, 150);
        if (works.size() == 16) {
            return -20;
        }
        try {
            List<Step> all = steps(new Tokens(text), 0);
            works.add(s.copy());
            Budget b = new Budget();
            run(all, b);
            refused = b.refused;
            return b.done;
        } catch (Fault f) {
            return blame(f);
        }
    }

    public int book(int n) {
        String text = text(n, 60);
        Map<Integer, Integer> read = new TreeMap<>();
        try {
            Tokens t = new Tokens(text);
            while (!t.atEnd()) {
                int place = t.see().place();
                int a = t.number(0, n() - 1);
                if (read.containsKey(a)) {
                    throw new Fault(2, place);
                }
                read.put(a, t.number(0, 8));
                t.expect(";");
            }
        } catch (Fault f) {
            return blame(f);
        }
        lines = read;
        return lines.size();
    }

    public int fault() {
        return faultPlace;
    }

    public int undo() {
        if (works.isEmpty()) {
            return -1;
        }
        // A copy, as an image may hold the same one.
        s = works.remove(works.size() - 1).copy();
        refused = 0;
        return works.size();
    }

    public int told(int what) {
        range(what, 0, 11);
        int sum = 0;
        switch (what) {
            case 0: return n();
            case 1: return bits(s::lives);
            case 2: return s.nameless();
            case 3: return s.year;
            case 4:
                for (int p = 0; p < n(); p++) {
                    sum += s.stones(p);
                }
                return sum;
            case 5: return s.debtsTogether();
            case 6:
                for (int p = 0; p < n(); p++) {
                    sum += s.lives(p) ? 0 : s.debts[p];
                }
                return sum;
            case 7:
                for (int p = 0; p < n(); p++) {
                    sum |= heirIn(s, p) == -1 ? 0 : 1 << heirIn(s, p);
                }
                return sum;
            case 8: return most;
            case 9: return lines.size();
            case 10: return refused;
            default: return s.longest();
        }
    }

    public int person(int p, int what) {
        person(p);
        range(what, 0, 7);
        switch (what) {
            case 0: return kinds[p];
            case 1: return s.debts[p];
            case 2: return s.lives(p) ? 1 : 0;
            case 3: return s.under[p];
            case 4: return s.stones(p);
            case 5: return bits(q -> s.under[q] == p);
            case 6: return bits(q -> friends[p][q]);
            default: return s.died[p];
        }
    }

    public int will(int p, int other) {
        person(p);
        person(other);
        return willIn(s, p, other);
    }

    public boolean lends(int p, int other) {
        person(p);
        person(other);
        return lendsIn(s, p, other);
    }

    public int would(int kind, int debts, int stones, int friend, int owed, int dead, int year, int person) {
        boolean right = kind >= 0 && kind <= 9 && debts >= 0 && debts <= 999 && stones >= 0 && stones <= 8
            && friend >= 0 && friend <= 1 && owed >= 0 && owed <= 999 && dead >= 0 && dead <= 8
            && year >= 0 && year <= 900 && person >= 0 && person <= 7;
        range(right ? 0 : 1, 0, 0);
        return Math.max(0, Math.min(99, law.value(Map.of("kind", kind, "debts", debts, "stones", stones,
            "friend", friend, "owed", owed, "dead", dead, "year", year, "person", person))));
    }

    public int lender(int p) {
        person(p);
        return heirIn(s, p);
    }

    public int ahead(int n, int what) {
        range(n, 0, 99);
        range(what, 0, 2);
        S then = s.copy();
        for (int i = 0; i < n; i++) {
            year(then);
        }
        if (what == 0) {
            return then.debtsTogether();
        }
        if (what == 1) {
            return bits(p -> heirIn(then, p) != -1);
        }
        int best = -1;
        for (int p = n() - 1; p >= 0; p--) {
            best = best == -1 || then.debts[p] >= then.debts[best] ? p : best;
        }
        return best;
    }

    public int truly(int p) {
        person(p);
        return s.trueOf(p);
    }

    public int chain(int p) {
        person(p);
        return s.longOf(p);
    }

    // ---- served: all ways as lists

    private List<Integer> dying(int persons) {
        List<Integer> out = new ArrayList<>(set(persons));
        out.removeIf(p -> !s.lives(p));
        return out;
    }

    private void ways(List<Integer> who, int persons, List<Integer> way, List<List<Integer>> all) {
        if (way.size() == who.size()) {
            all.add(new ArrayList<>(way));
            return;
        }
        int p = who.get(way.size());
        for (int a = 0; a <= 8; a++) {
            if (a < 8) {
                int lender = a;
                boolean can = a < n() && (persons & 1 << a) == 0 && lendsIn(s, a, p)
                    && way.stream().filter(x -> x == lender).count() + s.stones(a) < most;
                if (!can) {
                    continue;
                }
            }
            way.add(a);
            ways(who, persons, way, all);
            way.remove(way.size() - 1);
        }
    }

    private int[] measure(List<Integer> who, List<Integer> way) {
        int some = 0;
        int sum = 0;
        for (int i = 0; i < who.size(); i++) {
            if (way.get(i) < 8) {
                some++;
                sum += willIn(s, way.get(i), who.get(i));
            }
        }
        return new int[] {some, sum};
    }

    private List<Integer> bestWay(int persons) {
        List<Integer> who = dying(persons);
        List<List<Integer>> all = new ArrayList<>();
        ways(who, persons, new ArrayList<>(), all);
        all.sort((x, y) -> {
            int[] a = measure(who, x);
            int[] b = measure(who, y);
            if (a[0] != b[0]) {
                return b[0] - a[0];
            }
            if (a[1] != b[1]) {
                return b[1] - a[1];
            }
            for (int i = 0; i < x.size(); i++) {
                if (!x.get(i).equals(y.get(i))) {
                    return x.get(i) - y.get(i);
                }
            }
            return 0;
        });
        return all.get(0);
    }

    public int served(int persons, int what) {
        set(persons);
        range(what, 0, 1);
        return measure(dying(persons), bestWay(persons))[what];
    }

    public int giver(int p, int persons) {
        person(p);
        set(persons);
        int at = dying(persons).indexOf(p);
        if (at < 0) {
            return -1;
        }
        int a = bestWay(persons).get(at);
        return a == 8 ? -1 : a;
    }

    // ---- orders: all of them as lists

    private record Played(List<Integer> order, S then, int nameless) {
        int digits() {
            int out = 0;
            int scale = 1;
            for (int p : order) {
                out += p * scale;
                scale *= 8;
            }
            return out;
        }
    }

    private void orders(List<Integer> left, List<Integer> line, List<List<Integer>> all) {
        if (left.isEmpty()) {
            all.add(new ArrayList<>(line));
        }
        for (int i = 0; i < left.size(); i++) {
            List<Integer> rest = new ArrayList<>(left);
            line.add(rest.remove(i));
            orders(rest, line, all);
            line.remove(line.size() - 1);
        }
    }

    private List<Played> played(int persons, int what) {
        List<Integer> who = dying(persons);
        range(what, 0, 1);
        range(who.size(), 0, 5);
        List<List<Integer>> all = new ArrayList<>();
        orders(who, new ArrayList<>(), all);
        List<Played> out = new ArrayList<>();
        for (List<Integer> line : all) {
            S then = s.copy();
            int nameless = 0;
            for (int p : line) {
                die(then, p);
                nameless += then.under[p] == -1 ? 1 : 0;
            }
            out.add(new Played(line, then, nameless));
        }
        return out;
    }

    private List<Played> fitting(int persons, int what) {
        List<Played> all = played(persons, what);
        all.removeIf(x -> lines.entrySet().stream().anyMatch(l -> x.then().stones(l.getKey()) != l.getValue()));
        return all;
    }

    public int order(int persons, int what) {
        List<Played> all = played(persons, what);
        all.sort(Comparator.comparingInt(Played::nameless));
        return what == 0 ? all.get(0).nameless() : all.get(0).digits();
    }

    public int fits(int persons, int what) {
        List<Played> all = fitting(persons, what);
        return what == 0 ? all.size() : all.isEmpty() ? -1 : all.get(0).digits();
    }

    public int look(int persons, int what) {
        List<Played> all = fitting(persons, what);
        int who = -1;
        int worst = -1;
        for (int p = 0; p < n(); p++) {
            if (lines.containsKey(p)) {
                continue;
            }
            int w = 0;
            for (int stones = 0; stones <= 8; stones++) {
                int k = stones;
                int q = p;
                w = Math.max(w, (int) all.stream().filter(x -> x.then().stones(q) == k).count());
            }
            if (who == -1 || w < worst) {
                who = p;
                worst = w;
            }
        }
        return what == 0 ? who : worst;
    }

    public int neighbours(int v, int w, int what) {
        range(v, 0, 99);
        range(w, 0, 99);
        range(what, 0, 2);
        // Both lend: who stops has v as before. One lends: it would have 0, so it rests only without w.
        return what == 0 ? (w == 0 ? 4 : 2) : what == 1 ? 0 : 2 * v;
    }

    public long home(int n, int k, int q, int part) {
        range(n, 0, 12);
        range(k, 0, 13);
        range(q, 0, 16);
        range(part, 0, 1);
        BigInteger above = BigInteger.ZERO;
        for (int who = 0; who < 1 << n; who++) {
            int back = Integer.bitCount(who);
            if (back >= k) {
                above = above.add(BigInteger.valueOf(16 - q).pow(back).multiply(BigInteger.valueOf(q).pow(n - back)));
            }
        }
        BigInteger below = BigInteger.valueOf(16).pow(n);
        BigInteger gcd = above.gcd(below);
        return (part == 0 ? above : below).divide(gcd).longValueExact();
    }

    public int flowers(int p, int persons, int n) {
        person(p);
        TreeSet<Integer> who = set(persons);
        range(n, 0, 99);
        int best = 0;
        for (int bound = 0; bound <= 8; bound++) {
            int b = bound;
            if (who.stream().mapToInt(q -> Math.min(b, s.stones(q))).sum() <= n) {
                best = bound;
            }
        }
        return who.contains(p) ? Math.min(best, s.stones(p)) : 0;
    }

    private int top(int what, int[] values) {
        range(what, 0, 1);
        int best = -1;
        for (int p = 0; p < n(); p++) {
            if (values[p] > 0 && (best == -1 || values[p] > values[best])) {
                best = p;
            }
        }
        return best == -1 || what == 0 ? best : values[best];
    }

    public int honoured(int what) {
        int[] stones = new int[n()];
        for (int p = 0; p < n(); p++) {
            stones[p] = s.stones(p);
        }
        return top(what, stones);
    }

    public int sued(int what) {
        return top(what, s.debts);
    }

    public int free(int p) {
        person(p);
        return bits(q -> friends[p][q] && s.lives(q) && s.stones(q) < most);
    }

    private void walk(int p, Set<Integer> seen) {
        if (seen.add(p)) {
            for (int q = 0; q < n(); q++) {
                if (friends[p][q]) {
                    walk(q, seen);
                }
            }
        }
    }

    public int kin(int p) {
        person(p);
        Set<Integer> seen = new TreeSet<>();
        walk(p, seen);
        return bits(seen::contains);
    }

    public int willing(int p) {
        person(p);
        return bits(a -> lendsIn(s, a, p));
    }

    private boolean isBelow(int q, int p) {
        return s.under[q] != -1 && (s.under[q] == p || isBelow(s.under[q], p));
    }

    public int below(int p) {
        person(p);
        return bits(q -> isBelow(q, p));
    }

    public int debtless() {
        return bits(p -> s.debts[p] == 0);
    }

    public int after(int p, int what) {
        person(p);
        range(what, 0, 1);
        int heir = heirIn(s, p);
        if (heir == -1) {
            return -1;
        }
        S then = s.copy();
        die(then, p);
        return what == 0 ? then.stones(heir) : then.debts[heir];
    }

    public int latest(int what) {
        range(what, 0, 1);
        int best = -1;
        for (int p = n() - 1; p >= 0; p--) {
            if (!s.lives(p) && (best == -1 || s.died[p] >= s.died[best])) {
                best = p;
            }
        }
        return best == -1 || what == 0 ? best : s.died[best];
    }

    // ---- centuries

    private static final class Seed {
        long value;

        int by(int m) {
            value = Math.floorMod(value * 1103515245L + 12345L, 1L << 32);
            return (int) (value / 65536 % 32768 % m);
        }
    }

    private S passed(int seed, int years, int q) {
        Seed r = new Seed();
        r.value = Math.floorMod((long) seed, 1L << 32);
        S in = s.copy();
        for (int i = 0; i < years; i++) {
            if (n() > 0) {
                if (r.by(16) < q) {
                    die(in, r.by(n()));
                }
                int a = r.by(n());
                int b = r.by(n());
                lend(in, a, b);
            }
            year(in);
        }
        return in;
    }

    public int century(int seed, int years, int q, int what) {
        range(years, 1, 96);
        range(q, 0, 16);
        range(what, 0, 3);
        S in = passed(seed, years, q);
        return what == 0 ? in.livingBits() : what == 1 ? in.nameless() : what == 2 ? in.debtsTogether() : in.longest();
    }

    public int span(int seed, int many, int years, int q, int what, int p) {
        range(many, 1, 20);
        range(years, 1, 96);
        range(q, 0, 16);
        range(what, 0, 2);
        range(p, 0, n() - 1);
        TreeSet<Integer> left = new TreeSet<>();
        int lives = 0;
        for (int i = 0; i < many; i++) {
            S in = passed(seed + i, years, q);
            left.add(Integer.bitCount(in.nameless()));
            lives += in.lives(p) ? 1 : 0;
        }
        return what == 0 ? left.first() : what == 1 ? left.last() : lives;
    }

    // ---- images

    public int image() {
        if (images.size() == 3) {
            return -1;
        }
        images.push(new Image(s.copy(), new ArrayList<>(works)));
        return images.size();
    }

    public int restore() {
        if (images.isEmpty()) {
            return -1;
        }
        Image i = images.pop();
        s = i.now();
        works = i.works();
        refused = 0;
        return images.size();
    }

    public int status(int what) {
        return what == 0 || what == 1 ? status[what] : -1;
    }

    public int count(int what) {
        return what == 0 ? images.size() : what == 1 ? tape.size() : what == 2 ? works.size() : -1;
    }
}
