/** The boundaries that the document names for what is asked, sentence by sentence. */
public final class AskBoundariesTest extends Check {
    private static final String EIGHT = "person 9 0;".repeat(8);
    private static final int UPWARD = 0 + 8 * (1 + 8 * (2 + 8 * (3 + 8 * 4)));
    private static final int DOWNWARD = 4 + 8 * (3 + 8 * (2 + 8 * (1 + 8 * 0)));

    public static void main(String[] args) {
        noPersons();
        allEightPersons();
        would();
        lendersOfThoseWhoLive();
        ahead();
        aheadBeyondTheLastYear();
        servedOfNone();
        servedToTheFull();
        servedMostFirst();
        servedOfAlikeWays();
        ordersOfFive();
        ordersOfNone();
        fewestNameless();
        fitsAllLines();
        looks();
        neighbours();
        home();
        flowers();
        honoured();
        sued();
        friendsWhoAreFree();
        kin();
        willing();
        below();
        debtless();
        after();
        latest();
        drawnBelow();
        drawnBits();
        centuries();
        spans();
        others();
        end("what is asked keeps its boundaries");
    }

    // ---- no PERSONS, all of them

    private static void noPersons() {
        says("A PENINSULA without CLAUSES.");
        BorrowedStones x = new BorrowedStones();
        for (int what = 0; what <= 11; what++) {
            due("told", x.told(what), what == 8 ? 3 : 0);
        }
        due("served", x.served(0, 0), 0);
        due("WILLS", x.served(0, 1), 0);
        due("order", x.order(0, 0), 0);
        due("the order of nobody", x.order(0, 1), 0);
        due("one order", x.fits(0, 0), 1);
        due("the order of nobody", x.fits(0, 1), 0);
        for (int what = 0; what <= 1; what++) {
            due("look", x.look(0, what), -1);
            due("honoured", x.honoured(what), -1);
            due("sued", x.sued(what), -1);
            due("latest", x.latest(what), -1);
            due("ahead", x.ahead(99, what), 0);
        }
        due("ahead", x.ahead(0, 2), -1);
        due("debtless", x.debtless(), 0);
        says("Without PERSONS nothing is DRAWN, YEARS go by.");
        for (int what = 0; what <= 3; what++) {
            due("century", x.century(7, 96, 16, what), 0);
        }
        says("IllegalArgumentException: bits of no PERSONS (so below).");
        illegal("the first", () -> x.served(1, 0));
        illegal("all bits", () -> x.order(-1, 0));
        says("(IllegalArgumentException: no such PERSON, also for 0, 1.)");
        for (int what = 0; what <= 2; what++) {
            int which = what;
            illegal("span", () -> x.span(1, 1, 1, 0, which, 0));
        }
    }

    private static void allEightPersons() {
        says("IllegalArgumentException: bits of no PERSONS (so below).");
        BorrowedStones x = on(EIGHT);
        due("all told", x.served(255, 0), 0);
        due("all told", x.giver(7, 255), -1);
        due("all told", x.flowers(7, 255, 99), 0);
        for (int bits : new int[] {256, 256 + 1, -1, Integer.MIN_VALUE, Integer.MAX_VALUE, 1 << 30}) {
            illegal("served", () -> x.served(bits, 0));
            illegal("giver", () -> x.giver(7, bits));
            illegal("flowers", () -> x.flowers(7, bits, 0));
            illegal("order", () -> x.order(bits, 0));
            illegal("fits", () -> x.fits(bits, 0));
            illegal("look", () -> x.look(bits, 0));
        }
        BorrowedStones y = on("person 9 0;person 9 0;");
        due("both", y.order(3, 0), 1);
        illegal("a third", () -> y.order(4, 0));
        illegal("a third beside", () -> y.fits(5, 0));
    }

    // ---- promises 9, 13 to 15

    private static int would(BorrowedStones x, int[] with) {
        return x.would(with[0], with[1], with[2], with[3], with[4], with[5], with[6], with[7]);
    }

    private static void would() {
        says("such kind (0 to 9), debts (0 to 999), stones (0 to 8), friend (0, 1), owed (0 to 999), dead (0 to 8),"
            + " year (0 to 900), person (0 to 7)");
        String[] facts = {"kind", "debts", "stones", "friend", "owed", "dead", "year", "person"};
        int[] most = {9, 999, 8, 1, 999, 8, 900, 7};
        BorrowedStones x = on("person 3 3;person 3 3;");
        for (int i = 0; i < most.length; i++) {
            int fact = i;
            law(x, "50+" + facts[i] + "-" + most[i]);
            for (int value : new int[] {most[i], most[i] / 2, 0}) {
                int[] with = new int[8];
                with[i] = value;
                due(facts[i] + " " + value, would(x, with), Math.max(0, 50 + value - most[i]));
                int[] others = most.clone();
                others[i] = value;
                due(facts[i] + " " + value, would(x, others), Math.max(0, 50 + value - most[i]));
            }
            for (int off : new int[] {-1, most[i] + 1, Integer.MIN_VALUE, Integer.MAX_VALUE}) {
                int[] with = new int[8];
                with[fact] = off;
                illegal(facts[i] + " " + off, () -> would(x, with));
            }
        }
        due("nothing stays changed", law(x, "debts+owed"), 1);
        due("WILL", x.will(0, 1), 6);
    }

    private static void lendersOfThoseWhoLive() {
        says("7 whose NAME somebody who lives would have, did that one die now, asked as by die, each by itself");
        BorrowedStones x = on(EIGHT, "9+dead");
        due("the first, and the second for it", x.told(7), 3);
        law(x, "10-dead");
        due("nobody", x.told(7), 0);
        law(x, "10+person");
        due("the last, and the last but one for it", x.told(7), 192);
        work(x, "die 0;");
        due("each by itself", x.told(7), 192);
        due("nothing stays changed", x.told(1), 254);
        due("of a dead", x.lender(0), -1);
        work(x, "die 1;die 2;die 3;die 4;die 5;");
        // 7 bears three, 6 three as well: nobody is left.
        due("full", x.told(7), 0);
        due("who lives", x.told(1), 192);
        BorrowedStones one = on("person 9 0;", "99");
        due("alone", one.told(7), 0);
        due("alone", one.lender(0), -1);
    }

    private static void ahead() {
        says("In n YEARS (0 to 99), nothing else being done");
        BorrowedStones x = on("person 9 5;person 0 5;person 0 5;");
        work(x, "die 1;die 2;");
        due("now", x.ahead(0, 0), 15);
        due("in a YEAR", x.ahead(1, 0), 17);
        due("in 99", x.ahead(99, 0), 15 + 198);
        due("nothing stays changed", x.told(5), 15);
        due("the YEAR stays", x.told(3), 0);
        says("1 who would have a LENDER of those who live, did each die then by itself, asked as by die (bits)");
        BorrowedStones y = on(THREE, "year");
        due("not in 9", y.ahead(9, 1), 0);
        due("in 10", y.ahead(10, 1), 7);
        work(y, "die 2;");
        due("of those who live", y.ahead(10, 1), 3);
        law(y, "dead*5");
        due("one more is dead", y.ahead(0, 1), 3);
        law(y, "16-dead*5");
        due("one more is dead", y.ahead(0, 1), 0);
        says("2 the PERSON of most DEBTS then, of alike ones the first (NONE: there are none)");
        BorrowedStones z = on("person 0 3;person 9 1;person 0 0;person 0 1;");
        due("now", z.ahead(0, 2), 0);
        work(z, "die 2;");
        due("of alike ones", z.ahead(2, 2), 0);
        due("of most", z.ahead(3, 2), 1);
        due("of nothing", on("person 0 0;person 0 0;").ahead(99, 2), 0);
        work(z, "die 1;");
        due("dead, too", z.ahead(0, 2), 0);
        due("dead, too", on("person 0 0;person 0 4;person 0 4;").ahead(0, 2), 1);
    }

    private static void aheadBeyondTheLastYear() {
        says("YEARS go by as by year (beyond 900, too)");
        BorrowedStones x = on("person 9 0;person 9 0;", "10");
        work(x, "die 1;");
        for (int i = 0; i < 5; i++) {
            work(x, "again 60[year;];again 60[year;];again 60[year;];");
        }
        work(x, "again 13[pay 0 60;];");
        due("900", x.told(3), 900);
        due("DEBTS", x.told(5), 120);
        due("a YEAR more", x.ahead(1, 0), 121);
        due("99 more", x.ahead(99, 0), 219);
        due("by a century", x.century(1, 96, 0, 2), 216);
        work(x, "again 14[owe 0 60;];");
        due("960", x.told(5), 960);
        due("998", x.ahead(38, 0), 998);
        due("999", x.ahead(39, 0), 999);
        due("999 at most", x.ahead(40, 0), 999);
        due("999 at most", x.century(1, 96, 0, 2), 999);
        BorrowedStones y = on(THREE, "year-989");
        for (int i = 0; i < 5; i++) {
            work(y, "again 60[year;];again 60[year;];again 60[year;];");
        }
        due("998", y.ahead(98, 1), 0);
        due("999", y.ahead(99, 1), 7);
    }

    // ---- promises 18, 19

    private static void servedOfNone() {
        says("IllegalArgumentException: bits of no PERSONS (so below).");
        BorrowedStones x = on(THREE, "50");
        due("nobody", x.served(0, 0), 0);
        due("nobody", x.served(0, 1), 0);
        due("nobody", x.giver(0, 0), -1);
        says("to give each of them one PERSON, who is none of them");
        due("all", x.served(7, 0), 0);
        due("all", x.served(7, 1), 0);
        due("all but one", x.served(6, 0), 2);
        says("NONE: none, or it is not one of them, or dead");
        due("not one of them", x.giver(0, 6), -1);
        due("one of them", x.giver(1, 6), 0);
        work(x, "die 1;");
        due("dead", x.giver(1, 6), -1);
        due("the dead is left out", x.served(6, 0), 1);
        due("the dead alone", x.served(2, 0), 0);
        due("the dead gives none", x.served(5, 0), 0);
    }

    private static void servedToTheFull() {
        says("no PERSON to more than N of most less the STONES it bears");
        for (int n = 1; n <= 4; n++) {
            for (int stones = 0; stones <= Math.min(2, n); stones++) {
                // Only 0 lends, n STONES at most.
                BorrowedStones x = on(EIGHT + "most " + n + ";", "50-person*50");
                work(x, "die 6;die 7;".substring(0, 6 * stones));
                due("STONES", x.person(0, 4), stones);
                due("by 0", x.served(62, 0), n - stones);
                due("WILLS", x.served(62, 1), 50 * (n - stones));
                for (int p = 1; p <= 5; p++) {
                    due("the first ones", x.giver(p, 62), p <= n - stones ? 0 : -1);
                }
            }
        }
        says("LENDS to it (as now)");
        BorrowedStones x = on(THREE, "9+dead");
        due("nobody is dead", x.served(6, 0), 0);
        law(x, "10-dead");
        due("nobody is dead", x.served(6, 0), 2);
        law(x, "10-stones");
        due("who is served is no STONE yet", x.served(6, 0), 2);
        law(x, "9");
        due("WILL 9", x.served(6, 0), 0);
        law(x, "10");
        due("WILL 10", x.served(6, 1), 20);
    }

    private static void servedMostFirst() {
        says("that by which most have one; of as many that by which WILLS (as now) together are most");
        String four = "person 0 0;person 0 0;person 0 0;person 0 1;";
        // 0 lends 99 to 2 and 10 to 3, 1 lends 10 to 2 alone: two at 20 ahead of one at 99.
        BorrowedStones x = on(four + "friend 0 2;most 1;", "10+friend*89-person*owed*99");
        due("two", x.served(12, 0), 2);
        due("WILLS", x.served(12, 1), 20);
        due("who", x.giver(2, 12), 1);
        due("who", x.giver(3, 12), 0);
        // 0 lends 99 to 3, all else is 10: 109 by 1 and 0, ahead of 20 by 0 and 1.
        BorrowedStones y = on(four + "friend 0 3;most 1;", "10+friend*89");
        due("two", y.served(12, 0), 2);
        due("WILLS", y.served(12, 1), 109);
        due("who", y.giver(2, 12), 1);
        due("who", y.giver(3, 12), 0);
        // 0 lends 99 to 2, all else is 10: 109 by 0 and 1, ahead of 20 by 1 and 0.
        BorrowedStones z = on(four + "friend 0 2;most 1;", "10+friend*89");
        due("WILLS", z.served(12, 1), 109);
        due("who", z.giver(2, 12), 0);
        due("who", z.giver(3, 12), 1);
        law(y, "10+friend*0");
        due("alike", y.served(12, 1), 20);
        due("who", y.giver(2, 12), 0);
        due("who", y.giver(3, 12), 1);
        // 0 lends 11 to 3, 1 lends 11 to 2, each 10 to the other one.
        law(y, "10+friend+(1-owed)*person");
        due("one more each", y.served(12, 1), 22);
        due("who", y.giver(2, 12), 1);
    }

    private static void servedOfAlikeWays() {
        says("of alike ways the first (by their numbers the least PERSON, none last)");
        BorrowedStones x = on(EIGHT + "most 2;", "20");
        int[] givers = {-1, -1, -1, 0, 0, 1, 1, 2};
        for (int p = 0; p < 8; p++) {
            due("all alike", x.giver(p, 248), givers[p]);
        }
        BorrowedStones y = on(EIGHT + "most 2;", "20-person*20");
        int[] first = {-1, 0, 0, -1, -1, -1, -1, -1};
        for (int p = 0; p < 8; p++) {
            due("none last", y.giver(p, 254), first[p]);
        }
        due("all but one", y.served(254, 0), 2);
        due("by the last one alone", on(EIGHT + "most 4;", "person*10-60").served(127, 1), 40);
    }

    // ---- promises 20 to 22

    private static void ordersOfFive() {
        says("IllegalArgumentException: also more than 5 told PERSONS who live.");
        BorrowedStones x = on(EIGHT + "most 4;", "20");
        for (int what = 0; what <= 1; what++) {
            int which = what;
            due("five", x.order(31, what), what == 0 ? 0 : UPWARD);
            due("five", x.fits(31, what), what == 0 ? 120 : UPWARD);
            illegal("six", () -> x.order(63, which));
            illegal("six", () -> x.fits(63, which));
            illegal("six", () -> x.look(63, which));
            illegal("eight", () -> x.order(255, which));
        }
        due("the last five", x.order(248, 1), 3 + 8 * (4 + 8 * (5 + 8 * (6 + 8 * 7))));
        due("nothing stays changed", x.told(1), 255);
        says("who is dead of them is left out");
        work(x, "die 0;");
        due("six with a dead", x.order(63, 0), 0);
        due("six with a dead", x.fits(63, 0), 120);
        due("six with a dead", x.order(63, 1), 1 + 8 * (2 + 8 * (3 + 8 * (4 + 8 * 5))));
        illegal("seven with a dead", () -> x.look(127, 0));
        work(x, "die 1;die 2;");
        due("all with three dead", x.fits(255, 0), 120);
        due("four", x.fits(127, 0), 24);
        due("three", x.fits(63, 0), 6);
        due("two", x.fits(31, 0), 2);
        due("one", x.fits(15, 0), 1);
        due("one", x.order(15, 1), 3);
    }

    private static void ordersOfNone() {
        says("0 how many lie under none by it, 1 the order, as digits to the base 8, the first the lowest (0: nobody dies)");
        BorrowedStones x = on(THREE, "0");
        due("nobody", x.order(0, 0), 0);
        due("nobody", x.order(0, 1), 0);
        due("the first alone", x.order(1, 1), 0);
        due("the last alone", x.order(4, 1), 2);
        due("all", x.order(7, 1), 1 * 8 + 2 * 64);
        due("under none", x.order(7, 0), 3);
        work(x, "die 0;die 1;");
        due("who is dead already is none of them", x.order(7, 0), 1);
        due("nobody but the dead", x.order(3, 0), 0);
        due("nobody but the dead", x.order(3, 1), 0);
        work(x, "die 2;");
        due("all are dead", x.order(7, 0), 0);
        due("all are dead", x.order(7, 1), 0);
    }

    private static void fewestNameless() {
        says("that in which fewest of them lie under none; of alike ones the first (place by place)");
        // Each is lent a NAME only if it owes as much as there are dead then: 4 first, 3 second, and so on.
        String five = "person 0 5;person 0 4;person 0 3;person 0 2;person 0 1;person 0 0;person 0 0;person 0 0;most 4;";
        BorrowedStones x = on(five, "20+person-most[owed-dead,dead-owed]*99-least[1,7/(person+1)/2]*99");
        due("the last of all", x.order(31, 0), 0);
        due("the last of all", x.order(31, 1), DOWNWARD);
        due("three of them, the first of whom has none", x.order(7, 0), 2);
        // 0, 1 and 2 are due as the fifth, fourth and third: 2 as the third of them has one.
        due("the first such", x.order(7, 1), 0 + 8 * (1 + 8 * 2));
        due("two of them", x.order(24, 0), 0);
        due("two of them", x.order(24, 1), 4 + 8 * 3);
        BorrowedStones y = on(EIGHT, "50");
        due("all alike", y.order(31, 1), UPWARD);
        law(y, "0");
        due("all alike", y.order(31, 1), UPWARD);
        due("all alike", y.order(31, 0), 5);
        work(y, "die 5;die 6;die 7;");
        due("who lies under none already is none of them", y.order(31, 0), 5);
        due("all eight under none in the end", y.order(255, 1), UPWARD);
    }

    private static void fitsAllLines() {
        says("orders of them behind which all STONES are as in all lines: how many, the first");
        // Each lies under the last who lives.
        BorrowedStones x = on("person 1 0;person 1 0;person 1 0;person 1 0;person 1 0;most 4;", "20+person");
        due("all, by no line", x.fits(31, 0), 120);
        book(x, "0 1;1 1;2 1;3 1;4 0;");
        due("the last alone", x.fits(31, 0), 1);
        due("the last alone", x.fits(31, 1), DOWNWARD);
        book(x, "4 4;");
        due("4 last", x.fits(31, 0), 24);
        due("4 last", x.fits(31, 1), UPWARD);
        book(x, "4 4;3 1;");
        due("none", x.fits(31, 0), 0);
        due("none", x.fits(31, 1), -1);
        book(x, "0 8;");
        due("8 STONES", x.fits(31, 0), 0);
        book(x, "0 0;1 0;2 0;3 0;4 0;");
        due("of nobody, as now", x.fits(0, 0), 1);
        due("of nobody, as now", x.fits(0, 1), 0);
        book(x, "0 1;");
        due("of nobody, not as now", x.fits(0, 0), 0);
        due("of nobody, not as now", x.fits(0, 1), -1);
        work(x, "die 1;");
        book(x, "4 1;1 0;");
        due("lines of others, and of the dead", x.fits(2, 0), 1);
        due("one more to 4", x.fits(1, 0), 0);
        book(x, "4 2;");
        due("one more to 4", x.fits(1, 0), 1);
        due("one more to 4", x.fits(1, 1), 0);
    }

    private static void looks() {
        says("fewest such orders are left at the worst (0, if none is right), of these the first");
        BorrowedStones x = on(EIGHT + "most 4;", "20");
        // 0 and 1 die: 0 under 1 (then 1 under 2), or 1 under 0 (then 0 under 2): 1 bears one, or 0 does.
        due("0 tells them apart", x.look(3, 0), 0);
        due("one is left", x.look(3, 1), 1);
        book(x, "0 1;");
        due("one is right", x.fits(3, 0), 1);
        due("the first in no line", x.look(3, 0), 1);
        due("one is left", x.look(3, 1), 1);
        book(x, "0 8;");
        due("none is right: the first in no line", x.look(3, 0), 1);
        due("none is left", x.look(3, 1), 0);
        book(x, "0 8;1 0;2 0;");
        due("none is right", x.look(31, 0), 3);
        due("none is left", x.look(31, 1), 0);
        due("of nobody", x.look(0, 0), 3);
        due("none is right", x.look(0, 1), 0);
        book(x, "");
        due("of nobody", x.look(0, 0), 0);
        due("one is right", x.look(0, 1), 1);
        says("NONE both: all are in lines, or there are none");
        book(x, "0 0;1 0;2 0;3 0;4 0;5 0;6 0;");
        due("all but the last", x.look(3, 0), 7);
        due("none is right", x.look(3, 1), 0);
        due("all but the last", x.look(0, 0), 7);
        due("one is right", x.look(0, 1), 1);
        book(x, "0 0;1 0;2 0;3 0;4 0;5 0;6 0;7 0;");
        due("all", x.look(3, 0), -1);
        due("all", x.look(3, 1), -1);
        due("all", x.look(0, 1), -1);
        // Under the last who lives: 4 bears from 0 to 4, each in 24 of 120.
        BorrowedStones y = on("person 1 0;person 1 0;person 1 0;person 1 0;person 1 0;most 4;", "20+person");
        due("the last tells most", y.look(31, 0), 4);
        due("24 of 120", y.look(31, 1), 24);
    }

    // ---- promises 23 to 25

    private static void neighbours() {
        says("RESTS: neither would have more by the other thing");
        BorrowedStones x = new BorrowedStones();
        for (int v : new int[] {0, 1, 99}) {
            for (int w : new int[] {0, 1, 99}) {
                due("both, none; without w all four", x.neighbours(v, w, 0), w == 0 ? 4 : 2);
                due("both lend", x.neighbours(v, w, 1), 0);
                due("together", x.neighbours(v, w, 2), 2 * v);
            }
        }
        says("NEIGHBOURS by v, w (0 to 99)");
        for (int off : new int[] {-1, 100, Integer.MIN_VALUE, Integer.MAX_VALUE}) {
            illegal("v", () -> x.neighbours(off, 0, 0));
            illegal("w", () -> x.neighbours(0, off, 0));
            illegal("what", () -> x.neighbours(0, 0, off));
        }
        illegal("what", () -> x.neighbours(0, 0, 3));
    }

    private static void fraction(int n, int k, int q, long above, long below) {
        BorrowedStones x = new BorrowedStones();
        due("above of " + n + " " + k + " " + q, x.home(n, k, q, 0), above);
        due("below of " + n + " " + k + " " + q, x.home(n, k, q, 1), below);
    }

    private static void home() {
        says("each of n names is called out by q of 16, each by itself: how likely k or more are not");
        for (int n = 0; n <= 12; n++) {
            for (int q = 0; q <= 16; q++) {
                fraction(n, 0, q, 1, 1);
                fraction(n, n + 1, q, 0, 1);
                fraction(n, 13, q, 0, 1);
                if (q % 2 == 1) {
                    fraction(n, n, q, power(16 - q, n), power(16, n));
                }
            }
            fraction(n, n, 0, 1, 1);
            fraction(n, Math.max(1, n), 16, 0, 1);
            fraction(n, n, 8, 1, 1L << n);
            fraction(n, 1, 8, (1L << n) - 1, 1L << n);
            fraction(n, 1, 15, power(16, n) - power(15, n), power(16, n));
        }
        says("above (part 0), below (part 1), in least terms; k above n: 0 by 1");
        fraction(1, 1, 4, 3, 4);
        fraction(1, 1, 6, 5, 8);
        fraction(2, 1, 8, 3, 4);
        fraction(2, 2, 12, 1, 16);
        fraction(3, 2, 8, 1, 2);
        fraction(4, 2, 8, 11, 16);
        fraction(12, 12, 1, 129746337890625L, 1L << 48);
        fraction(12, 12, 15, 1, 1L << 48);
        fraction(12, 1, 1, (1L << 48) - 1, 1L << 48);
        fraction(12, 1, 2, (1L << 36) - 1, 1L << 36);
        fraction(0, 1, 0, 0, 1);
    }

    private static long power(long base, int n) {
        long all = 1;
        for (int i = 0; i < n; i++) {
            all *= base;
        }
        return all;
    }

    private static void flowers() {
        says("no more than a bound, the greatest by which no more than n are given (all, if they are no more)");
        // 0 bears four, 1 two, 2 none.
        BorrowedStones x = on(EIGHT + "most 4;", "least[1,person]*2-person*99+10");
        work(x, "die 3;die 4;die 5;die 6;");
        law(x, "person*10-least[1,person/2]*999");
        work(x, "die 7;die 2;");
        due("STONES", x.person(0, 4), 4);
        due("STONES", x.person(1, 4), 2);
        int[] to0 = {0, 0, 1, 1, 2, 3, 4, 4};
        int[] to1 = {0, 0, 1, 1, 2, 2, 2, 2};
        for (int n = 0; n < to0.length; n++) {
            due("of " + n, x.flowers(0, 3, n), to0[n]);
            due("of " + n, x.flowers(1, 3, n), to1[n]);
            due("with all others, dead and living, of " + n, x.flowers(1, 255, n), to1[n]);
            due("who bears none, of " + n, x.flowers(2, 7, n), 0);
            due("who is none of them, of " + n, x.flowers(1, 253, n), 0);
            due("alone, of " + n, x.flowers(0, 1, n), Math.min(4, n));
        }
        due("all", x.flowers(0, 3, 99), 4);
        work(x, "die 0;");
        due("dead", x.flowers(0, 1, 3), 3);
        due("of nobody", x.flowers(0, 0, 99), 0);
    }

    // ---- promises 26 to 34

    private static void honoured() {
        says("NONE both: nobody bears any");
        BorrowedStones x = on(EIGHT, "20-person");
        due("nobody", x.honoured(0), -1);
        due("nobody", x.honoured(1), -1);
        work(x, "die 7;");
        due("one", x.honoured(0), 0);
        due("one STONE", x.honoured(1), 1);
        law(x, "20+person");
        work(x, "die 5;");
        says("The PERSON, living or dead, who bears most STONES (what 0), of alike ones the first, how many (1)");
        due("of alike ones", x.honoured(0), 0);
        work(x, "die 4;");
        due("most", x.honoured(0), 6);
        due("two", x.honoured(1), 2);
        work(x, "die 6;");
        due("dead", x.honoured(0), 6);
        due("two", x.honoured(1), 2);
    }

    private static void sued() {
        says("NONE both: nobody owes anything");
        BorrowedStones x = on("person 9 0;person 9 0;person 9 0;", "0");
        due("nobody", x.sued(0), -1);
        due("nobody", x.sued(1), -1);
        work(x, "owe 2 1;");
        due("one", x.sued(0), 2);
        due("1", x.sued(1), 1);
        says("The PERSON, living or dead, who owes most (what 0), of alike ones the first, how much (1)");
        work(x, "owe 1 1;");
        due("of alike ones", x.sued(0), 1);
        work(x, "owe 2 1;die 2;");
        due("dead", x.sued(0), 2);
        due("2", x.sued(1), 2);
        work(x, "pay 2 2;pay 1 1;");
        due("nobody", x.sued(0), -1);
        work(x, "again 17[owe 0 60;];");
        due("999", x.sued(1), 999);
    }

    private static void friendsWhoAreFree() {
        says("Friends of a PERSON, living or dead, (bits) who live and bear fewer STONES than N of most.");
        BorrowedStones x = on(EIGHT + "friend 0 7;friend 0 1;friend 2 1;most 2;", "50-person*10");
        due("both", x.free(0), 130);
        due("of 1", x.free(1), 5);
        due("none", x.free(3), 0);
        work(x, "die 6;");
        due("one STONE of two", x.free(7), 1);
        work(x, "die 5;");
        due("two of two", x.free(7), 0);
        due("of 1", x.free(1), 4);
        work(x, "die 7;die 2;");
        due("who lives", x.free(1), 0);
        due("of the dead", x.free(2), 0);
        due("of 0", x.free(0), 0);
    }

    private static void kin() {
        says("Who is come to from a PERSON by friends, on and on (bits; itself, too; living or dead).");
        BorrowedStones x = on(EIGHT + "friend 7 6;friend 6 5;friend 5 4;friend 4 3;friend 3 2;friend 2 1;friend 1 0;");
        due("from end to end", x.kin(0), 255);
        due("from end to end", x.kin(7), 255);
        due("from within", x.kin(4), 255);
        work(x, "die 3;die 0;");
        due("the dead, too", x.kin(7), 255);
        due("from the dead", x.kin(3), 255);
        BorrowedStones y = on(EIGHT + "friend 0 7;friend 1 6;friend 6 3;");
        due("itself alone", y.kin(2), 4);
        due("a pair", y.kin(7), 129);
        due("three", y.kin(3), 74);
    }

    private static void willing() {
        says("PERSONS (bits) who LEND to a PERSON now (that one living or dead).");
        BorrowedStones x = on(EIGHT + "most 1;", "9+person/4");
        due("10 or more", x.willing(0), 240);
        due("itself not", x.willing(7), 112);
        work(x, "die 0;");
        due("to the dead, who is full not", x.willing(0), 224);
        work(x, "die 7;");
        due("the dead not", x.willing(0), 64);
        due("nobody", on("person 9 9;").willing(0), 0);
    }

    private static void below() {
        says("Who lies under the NAME of a PERSON, living or dead, or under that of one who does, and so on (bits).");
        BorrowedStones x = on(EIGHT, "20+person");
        due("nobody", x.below(7), 0);
        work(x, "die 7;die 6;die 5;die 4;die 3;die 2;die 1;");
        for (int p = 0; p < 8; p++) {
            due("all behind", x.below(p), 255 & ~((2 << p) - 1));
        }
        BorrowedStones y = on(EIGHT + "most 4;", "50-person");
        work(y, "die 1;die 2;die 3;die 4;die 5;die 0;");
        // 1 to 4 lie under 0, 5 under 6, 0 under 6.
        due("two of two", y.below(6), 63);
        due("four", y.below(0), 30);
        due("none", y.below(7), 0);
    }

    private static void debtless() {
        says("PERSONS (bits), living or dead, who owe nothing.");
        BorrowedStones x = on("person 1 0;person 1 1;person 1 0;person 1 60;", "0");
        due("two", x.debtless(), 5);
        work(x, "pay 1 1;die 2;die 3;owe 0 1;");
        due("dead, too", x.debtless(), 6);
        law(x, "99");
        work(x, "lend 0 3;");
        due("whose DEBTS are another's", x.debtless(), 14);
        due("all", on(EIGHT).debtless(), 255);
    }

    private static void after() {
        says("Did a PERSON who lives die now: 0 how many STONES its LENDER would bear then, 1 what that one would owe then");
        BorrowedStones x = on(EIGHT + "most 4;", "50-person");
        for (int stones = 0; stones < 4; stones++) {
            due("STONES", x.after(7, 0), stones + 1);
            work(x, "die " + (1 + stones) + ";");
        }
        due("of the next", x.after(7, 0), 1);
        says("NONE both: it has none, or is dead");
        due("dead", x.after(1, 0), -1);
        due("dead", x.after(1, 1), -1);
        law(x, "10-dead");
        due("none", x.after(7, 0), -1);
        due("none", x.after(7, 1), -1);
        law(x, "15-dead");
        due("one more is dead", x.after(7, 0), 1);
        due("nothing stays changed", x.told(1), 225);
        BorrowedStones y = on("person 0 60;person 0 58;", "10");
        work(y, "again 15[owe 0 60;];pay 0 20;");
        due("940 and 58", y.after(1, 1), 998);
        due("0's, too", y.after(0, 1), 998);
        work(y, "owe 1 1;");
        due("and 59", y.after(1, 1), 999);
        work(y, "owe 1 1;");
        due("999 at most", y.after(1, 1), 999);
        due("nothing stays changed", y.told(5), 1000);
    }

    private static void latest() {
        says("Of the dead that one whose YEAR of death is greatest (what 0), of alike ones the first, that YEAR (1)");
        BorrowedStones x = on(EIGHT, "0");
        due("all live", x.latest(0), -1);
        due("all live", x.latest(1), -1);
        work(x, "die 5;die 6;");
        due("of alike ones, in YEAR 0", x.latest(0), 5);
        due("YEAR 0", x.latest(1), 0);
        work(x, "die 3;year;");
        due("of alike ones", x.latest(0), 3);
        work(x, "die 7;");
        due("a YEAR greater", x.latest(0), 7);
        due("YEAR 1", x.latest(1), 1);
        law(x, "99");
        work(x, "year;lend 0 5;");
        due("a NAME lent later is no death", x.latest(0), 7);
        work(x, "die 4;die 0;die 1;die 2;");
        due("all dead", x.latest(0), 0);
        due("all dead", x.latest(1), 2);
    }

    // ---- promises 35, 36

    /** Bits 16 to 30 of what a SEED becomes by so many drawings. */
    private static int drawn(int seed, int drawings) {
        long value = seed & 0xffffffffL;
        for (int i = 0; i < drawings; i++) {
            value = value * 1103515245L + 12345L & 0xffffffffL;
        }
        return (int) (value / 65536 % 32768);
    }

    private static void drawnBelow() {
        says("DRAWN by 16 below Q: die");
        BorrowedStones x = on("person 9 9;");
        for (int seed : new int[] {0, 1, 2, 3, 12345, -1, -2, Integer.MAX_VALUE, Integer.MIN_VALUE, 1103515245}) {
            for (int q = 0; q <= 16; q++) {
                boolean dies = drawn(seed, 1) % 16 < q;
                due("SEED " + seed + " by " + q, x.century(seed, 1, q, 0), dies ? 0 : 1);
                due("SEED " + seed + " by " + q, x.century(seed, 1, q, 1), dies ? 1 : 0);
            }
        }
    }

    private static void drawnBits() {
        says("its bits 16 to 30, what is left of them");
        for (int people = 1; people <= 8; people++) {
            BorrowedStones x = on("person 9 0;".repeat(people), "0");
            for (int seed = -20; seed <= 20; seed++) {
                int dead = drawn(seed * 99999999, 2) % people;
                due("who dies", x.century(seed * 99999999, 1, 16, 0), (1 << people) - 1 - (1 << dead));
            }
        }
        says("(one DRAWN more; if it can be done)");
        for (int seed = 1; seed <= 100; seed++) {
            // 1 is dead; who lends does so to the dead alone.
            BorrowedStones x = on("person 9 0;person 9 0;person 9 0;", "0");
            work(x, "die 1;");
            law(x, "99-dead*50");
            int a = drawn(seed, 2) % 3;
            int b = drawn(seed, 3) % 3;
            due("lend " + a + " " + b, x.century(seed, 1, 0, 1), b == 1 && a != 1 ? 0 : 2);
            int dies = drawn(seed, 2) % 3;
            a = drawn(seed, 3) % 3;
            b = drawn(seed, 4) % 3;
            boolean lent = dies == 1 && b == 1 && a != 1;
            int want = dies == 1 ? (lent ? 0 : 2) : 2 | 1 << dies;
            due("die " + dies + " and lend " + a + " " + b, x.century(seed, 1, 16, 1), want);
        }
    }

    private static void centuries() {
        says("A CENTURY of so many YEARS (1 to 96), Q (0 to 16)");
        BorrowedStones x = on("person 9 0;person 9 0;", "10");
        work(x, "die 1;");
        due("a YEAR", x.century(1, 1, 0, 2), 1);
        due("96", x.century(1, 96, 0, 2), 96);
        due("never below 0", x.century(1, 96, 0, 0), 1);
        due("always below 16", x.century(1, 96, 16, 0), 0);
        due("the longest", x.century(1, 96, 16, 3), 1);
        due("under none", x.century(1, 96, 16, 1), 1);
        due("nothing stays changed", x.told(1), 1);
        due("nothing stays changed", x.told(3), 0);
        due("nothing stays changed", x.told(5), 0);
        BorrowedStones y = on(EIGHT + "most 4;", "10");
        due("none is dead", y.century(5, 96, 0, 3), 0);
        due("alike SEEDS", y.century(5, 96, 9, 2), y.century(5, 96, 9, 2));
    }

    private static void spans() {
        says("Of so many SEEDS (1 to 20; seed, seed and 1, ..)");
        BorrowedStones x = on("person 9 0;person 9 0;person 9 0;", "10-dead*5");
        for (int seed : new int[] {0, 7, -3, Integer.MAX_VALUE, Integer.MAX_VALUE - 18, Integer.MIN_VALUE}) {
            for (int many : new int[] {1, 2, 20}) {
                int fewest = 99;
                int most = -1;
                int lives = 0;
                for (int i = 0; i < many; i++) {
                    int left = Integer.bitCount(x.century(seed + i, 2, 7, 1));
                    fewest = Math.min(fewest, left);
                    most = Math.max(most, left);
                    lives += x.century(seed + i, 2, 7, 0) >> 2 & 1;
                }
                due("the fewest", x.span(seed, many, 2, 7, 0, 0), fewest);
                due("the most", x.span(seed, many, 2, 7, 1, 0), most);
                due("by how many 2 lives", x.span(seed, many, 2, 7, 2, 2), lives);
            }
        }
        BorrowedStones y = on(EIGHT);
        due("all live", y.span(1, 20, 96, 0, 0, 7), 0);
        due("all live", y.span(1, 20, 96, 0, 1, 7), 0);
        due("by all", y.span(1, 20, 96, 0, 2, 7), 20);
        law(y, "0");
        due("nobody lives", y.span(1, 20, 96, 16, 2, 7), 0);
        due("all under none", y.span(1, 20, 96, 16, 0, 7), 8);
        due("all under none", y.span(1, 1, 1, 16, 1, 7), 1);
        says("(IllegalArgumentException: no such PERSON, also for 0, 1.)");
        for (int what = 0; what <= 2; what++) {
            int which = what;
            illegal("a ninth", () -> y.span(1, 1, 1, 0, which, 8));
            illegal("below", () -> y.span(1, 1, 1, 0, which, -1));
        }
        due("no NoSuchElementException", y.status(0), 0);
        due("six", y.status(1), 6);
    }

    // ---- promises 39, 40

    private static void others() {
        says("1 IllegalArgumentException; NONE for others");
        BorrowedStones x = on(THREE);
        for (int what : new int[] {-1, 2, 3, Integer.MIN_VALUE, Integer.MAX_VALUE}) {
            due("status", x.status(what), -1);
        }
        says("0 IMAGES, 1 bytes of the TAPE, 2 WORKS that can be undone; NONE for others.");
        for (int what : new int[] {-1, 3, 4, Integer.MIN_VALUE, Integer.MAX_VALUE}) {
            due("count", x.count(what), -1);
        }
        due("none of these is refused", x.status(0) + x.status(1), 0);
    }
}
