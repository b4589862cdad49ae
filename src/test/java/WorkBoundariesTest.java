/** The boundaries that the document names for LAWS, STEPS, WORKS and IMAGES, sentence by sentence. */
public final class WorkBoundariesTest extends Check {
    private static final String EIGHT = "person 1 1;".repeat(8);
    private static final String LEAST_INT = "256*256*256*128";

    public static void main(String[] args) {
        beginning();
        clampedWill();
        wrappedValues();
        dividedValues();
        leastAndMost();
        facts();
        lawWithout();
        whoLends();
        untilFull();
        lenderOfOneWhoDies();
        debtsOfOneWhoDies();
        diesOnce();
        lentLater();
        lentLaterRefused();
        pays();
        owes();
        years();
        yearsAddStones();
        done();
        begunAtMost();
        agains();
        truly();
        longest();
        sixteenWorks();
        undone();
        undoneByOneWork();
        refusedSteps();
        threeImages();
        imagesKeepWorks();
        threeImagesOfSixteen();
        peninsulaEndsAll();
        end("laws and works keep their boundaries");
    }

    private static void beginning() {
        says("It is YEAR 0 at first; all live, nobody bears a STONE.");
        BorrowedStones x = on(EIGHT);
        due("the YEAR", x.told(3), 0);
        due("who lives", x.told(1), 255);
        due("who lies under none", x.told(2), 0);
        due("STONES", x.told(4), 0);
        due("DEBTS of the dead", x.told(6), 0);
        due("the longest", x.told(11), 0);
        for (int p = 0; p < 8; p++) {
            due("lives", x.person(p, 2), 1);
            due("under", x.person(p, 3), -1);
            due("STONES", x.person(p, 4), 0);
            due("under its NAME", x.person(p, 5), 0);
            due("died", x.person(p, 7), -1);
        }
    }

    // ---- the LAW

    private static void clampedWill() {
        says("what comes out, 0 at least, 99 at most");
        String[] laws = {"0-1", "0", "1", "98", "99", "100", "999", "0-999*999", "999*999", LEAST_INT, LEAST_INT + "-1"};
        int[] wills = {0, 0, 1, 98, 99, 99, 99, 0, 99, 0, 99};
        for (int i = 0; i < laws.length; i++) {
            due("would by " + laws[i], value(laws[i]), wills[i]);
            BorrowedStones x = on(THREE, laws[i]);
            due("will by " + laws[i], x.will(0, 1), wills[i]);
            due("to itself by " + laws[i], x.will(2, 2), wills[i]);
            due("SERVED by " + laws[i], x.served(1, 1), wills[i] < 10 ? 0 : wills[i]);
        }
        // 0 is cut to 99, 1 has 99, 2 has 98: alike are 0 and 1.
        due("alike at 99", on(THREE, "199-person*100+most[0,person-1]*99").lender(2), 0);
        due("alike at 99", on(THREE, "99+person*5").lender(0), 1);
        due("not alike at 98", on(THREE, "98+person*5").lender(1), 2);
    }

    private static void wrappedValues() {
        says("Values are whole numbers of 32 bits that wrap");
        due("2 to the 31", value(LEAST_INT), 0);
        due("less 1", value(LEAST_INT + "-1"), 99);
        due("less 1, and 1", value(LEAST_INT + "-1+1"), 0);
        due("less 1, and 43 more", value(LEAST_INT + "-1+43+" + LEAST_INT), 42);
        due("2 to the 32", value("256*256*256*256"), 0);
        due("2 to the 32, and 33", value("256*256*256*256+33"), 33);
        due("2 to the 32, less 1", value("50+(256*256*256*256-1)"), 49);
        due("the least, times less than 0", value("200+" + LEAST_INT + "*(0-1)/256/256/256"), 72);
        due("the least, by 1 less than 0", value("200+" + LEAST_INT + "/(0-1)/256/256/256"), 72);
        due("what that leaves", value("50+" + LEAST_INT + "%(0-1)"), 50);
        due("a product", value("(999*999*999*999)%97+50"), 50 + 999 * 999 * 999 * 999 % 97);
        due("a difference", value("(0-999*999*999*2-999*999*999)%49+50"),
            50 + (0 - 999 * 999 * 999 * 2 - 999 * 999 * 999) % 49);
    }

    private static void dividedValues() {
        says("/ cuts, % leaves (with the sign of what is divided), by 0 both are 0");
        due("7/2", value("7/2"), 3);
        due("-7/2", value("50+(0-7)/2"), 47);
        due("7/-2", value("50+7/(0-2)"), 47);
        due("-7/-2", value("50+(0-7)/(0-2)"), 53);
        due("1/2", value("50+1/2"), 50);
        due("-1/2", value("50+(0-1)/2"), 50);
        due("7%4", value("50+7%4"), 53);
        due("-7%4", value("50+(0-7)%4"), 47);
        due("7%-4", value("50+7%(0-4)"), 53);
        due("-7%-4", value("50+(0-7)%(0-4)"), 47);
        due("8%4", value("50+8%4"), 50);
        due("by 1", value("7/1+7%1"), 7);
        due("7/0", value("50+7/0"), 50);
        due("7%0", value("50+7%0"), 50);
        due("0/0", value("50+0/0"), 50);
        due("0%0", value("50+0%0"), 50);
        due("the least by 0", value("50+" + LEAST_INT + "/0"), 50);
        due("by a fact of 0", on(THREE, "50+7/stones+7%dead").will(0, 1), 50);
        says("E: T { + or - T }. T: U { * or / or % U }.");
        due("from the left", value("90-20-30"), 40);
        due("from the left", value("90/3/3"), 10);
        due("from the left", value("90/3*3"), 90);
        due("from the left", value("90%40*3"), 30);
        due("from the left", value("5*7%4"), 3);
        due("products ahead of sums", value("90-2*3-4/2"), 82);
        due("brackets ahead of all", value("(90-2)*(3-2)"), 88);
    }

    private static void leastAndMost() {
        says("\"least\" \"[\" E \",\" E \"]\", \"most\" \"[\" E \",\" E \"]\"");
        due("least", value("least[4,5]*10+least[5,4]"), 44);
        due("most", value("most[4,5]*10+most[5,4]"), 55);
        due("alike", value("least[7,7]*10+most[7,7]"), 77);
        due("below 0", value("50+least[0-1,0-2]+most[0-3,0-4]"), 45);
        due("around 0", value("50+least[0-1,0]+most[0,1]"), 50);
        due("the least of all", value("most[" + LEAST_INT + ",5]"), 5);
        due("the most of all", value("least[" + LEAST_INT + "-1,5]"), 5);
        due("of sums", value("least[1+2*3,9-1]*10+most[1+2*3,9-1]"), 78);
    }

    private static void facts() {
        says("\"kind\" (of A), \"debts\" (of A by now), \"stones\" (A bears by now)");
        BorrowedStones x = on("person 9 60;person 0 0;person 3 7;friend 0 1;most 4;", "kind");
        due("9", x.will(0, 1), 9);
        due("0", x.will(1, 0), 0);
        law(x, "debts");
        due("60", x.will(0, 1), 60);
        due("0", x.will(1, 0), 0);
        work(x, "again 16[owe 0 60;];");
        law(x, "debts-920");
        due("999", x.will(0, 1), 79);
        says("\"owed\" (DEBTS of B by now)");
        law(x, "owed-920");
        due("999", x.will(1, 0), 79);
        law(x, "owed");
        due("of B", x.will(0, 2), 7);
        says("\"friend\" (1: A and B are friends, 0 not)");
        law(x, "friend");
        due("friends", x.will(0, 1), 1);
        due("friends", x.will(1, 0), 1);
        due("not", x.will(0, 2), 0);
        due("of itself", x.will(0, 0), 0);
        says("\"dead\" (how many are dead by now), \"year\" (the YEAR), \"person\" (the number of A)");
        BorrowedStones y = on(EIGHT, "person*10+dead");
        for (int p = 0; p < 8; p++) {
            due("the number of A", y.will(p, 0), 10 * p + p);
            due("the number of A, to itself", y.will(p, p), 10 * p + p);
            work(y, "die " + p + ";");
        }
        law(y, "dead");
        due("all", y.will(0, 1), 8);
        factsOfNow();
    }

    private static void factsOfNow() {
        says("\"dead\" (how many are dead by now), \"year\" (the YEAR)");
        BorrowedStones x = on("person 0 0;person 0 0;person 0 0;person 0 0;person 0 0;most 4;", "10-person");
        work(x, "die 1;die 2;die 3;die 4;");
        law(x, "stones*10");
        due("STONES of one who lives", x.will(0, 1), 40);
        due("as many as of most", x.willing(1), 0);
        due("none", x.will(1, 0), 0);
        for (int i = 0; i < 5; i++) {
            work(x, "again 60[year;];again 60[year;];again 60[year;];");
        }
        law(x, "year-850");
        due("900", x.will(0, 1), 50);
        due("STEPS beyond 900 are none", work(x, "year;"), 0);
        due("900", x.will(0, 1), 50);
        due("would of 900", x.would(0, 0, 0, 0, 0, 0, 900, 0), 50);
    }

    private static void lawWithout() {
        says("without: kind * 3 + friend * 9 - stones * 5");
        BorrowedStones x = new BorrowedStones();
        due("kind 9, friend", x.would(9, 0, 0, 1, 0, 0, 0, 0), 36);
        due("kind 9", x.would(9, 999, 0, 0, 999, 8, 900, 7), 27);
        due("a stone", x.would(9, 0, 1, 1, 0, 0, 0, 0), 31);
        due("8 stones", x.would(9, 0, 8, 1, 0, 0, 0, 0), 0);
        due("kind 3", x.would(3, 0, 0, 0, 0, 0, 0, 0), 9);
        // KIND 3 does not lend but to a friend, KIND 4 does.
        BorrowedStones y = on("person 3 0;person 4 0;person 3 0;friend 0 2;");
        due("who lends to 1", y.willing(1), 0);
        due("who lends to 0", y.willing(0), 6);
    }

    // ---- who LENDS

    private static void whoLends() {
        says("A PERSON A LENDS to B, if A lives, is not B, bears fewer STONES than N of most, and its WILL is 10 or more.");
        BorrowedStones x = on(THREE, "9");
        due("WILL 9", x.lends(0, 1), false);
        due("nobody", x.willing(1), 0);
        due("nobody", x.lender(1), -1);
        due("nobody", x.served(2, 0), 0);
        law(x, "10");
        due("WILL 10", x.lends(0, 1), true);
        due("all but itself", x.willing(1), 5);
        due("itself", x.lends(1, 1), false);
        due("the first", x.lender(1), 0);
        due("one", x.served(2, 0), 1);
        work(x, "die 0;");
        due("does not live", x.lends(0, 1), false);
        due("to the dead", x.lends(1, 0), true);
        due("the dead to itself", x.lends(0, 0), false);
        due("who lends to the dead", x.willing(0), 6);
        due("who lends to 1", x.willing(1), 4);
        work(x, "die 1;die 2;");
        due("nobody lives", x.willing(0), 0);
    }

    private static void untilFull() {
        says("bears fewer STONES than N of most");
        for (int n = 1; n <= 4; n++) {
            BorrowedStones x = on(EIGHT + "most " + n + ";", "99-person*10");
            for (int stones = 0; stones < n; stones++) {
                due("STONES", x.person(0, 4), stones);
                due("lends", x.lends(0, 1), true);
                due("the LENDER", x.lender(1), 0);
                due("dies", work(x, "die " + (7 - stones) + ";"), 1);
            }
            due("STONES", x.person(0, 4), n);
            due("lends no more", x.lends(0, 1), false);
            due("its WILL stays", x.will(0, 1), 99);
            due("the LENDER", x.lender(2), 1);
            due("dies", work(x, "die 2;"), 1);
            due("under the next", x.person(2, 3), 1);
            due("STONES stay", x.person(0, 4), n);
            due("dies with its STONES", work(x, "die 0;"), 1);
            due("STONES stay", x.person(0, 4), n);
            due("does not lend", x.lends(0, 1), false);
        }
        BorrowedStones x = on(EIGHT, "99-person*10");
        due("3 without", work(x, "die 7;die 6;die 5;die 4;"), 4);
        due("three", x.person(0, 4), 3);
        due("then one", x.person(1, 4), 1);
    }

    // ---- die

    private static void lenderOfOneWhoDies() {
        says("of all who LEND to it that one of most WILL, of alike ones the first, is its LENDER");
        BorrowedStones x = on(EIGHT, "10+person");
        due("the most willing", x.lender(0), 7);
        due("of the last", x.lender(7), 6);
        law(x, "20-person");
        due("the first", x.lender(7), 0);
        due("of the first", x.lender(0), 1);
        law(x, "10");
        due("of alike ones", x.lender(7), 0);
        due("of alike ones", x.lender(0), 1);
        law(x, "10+person/7");
        due("the last by one", x.lender(3), 7);
        law(x, "9+person/7");
        due("the last alone", x.lender(3), 7);
        due("nobody", x.lender(7), -1);
        says("(it does not live from now on, and is one of the dead, as it is asked who LENDS)");
        BorrowedStones y = on(THREE, "9+dead");
        due("asked now", y.willing(0), 0);
        due("asked as by die", y.lender(0), 1);
        due("one is dead then", work(y, "die 0;"), 1);
        due("under", y.person(0, 3), 1);
        BorrowedStones z = on(THREE, "10-dead");
        due("asked now", z.willing(0), 6);
        due("asked as by die", z.lender(0), -1);
        due("one is dead then", work(z, "die 0;"), 1);
        due("under", z.person(0, 3), -1);
    }

    private static void debtsOfOneWhoDies() {
        says("its DEBTS are the LENDER's, too (999 at most there), 0 of its own");
        for (int own : new int[] {0, 8, 9, 10, 60}) {
            // 0 owes 990.
            BorrowedStones x = on("person 1 60;person 1 " + own + ";", "10");
            due("owes", work(x, "again 15[owe 0 60;];owe 0 30;"), 16);
            due("then", x.after(1, 1), Math.min(999, 990 + own));
            due("dies", work(x, "die 1;"), 1);
            due("of the LENDER", x.person(0, 1), Math.min(999, 990 + own));
            due("of its own", x.person(1, 1), 0);
            due("of the dead", x.told(6), 0);
        }
        says("none LENDS: it lies under none, its DEBTS stay");
        BorrowedStones x = on(THREE, "9");
        due("dies", work(x, "die 1;"), 1);
        due("under", x.person(1, 3), -1);
        due("DEBTS", x.person(1, 1), 20);
        due("of the others", x.told(5), 60);
        due("of the dead", x.told(6), 20);
        due("who lies under none", x.told(2), 2);
        due("STONES", x.told(4), 0);
        due("the last dies", work(on("person 9 5;", "99"), "die 0;"), 1);
        BorrowedStones y = on("person 9 5;", "99");
        work(y, "die 0;");
        due("the last lies under none", y.told(2), 1);
        due("its DEBTS", y.told(6), 5);
    }

    private static void diesOnce() {
        says("(REFUSED, if P is dead)");
        BorrowedStones x = on(THREE, "9");
        due("once", work(x, "die 0;die 0;year;"), 2);
        due("refused", x.told(10), 1);
        law(x, "10");
        due("again", work(x, "die 0;"), 0);
        due("under none, still", x.person(0, 3), -1);
        due("its YEAR", x.person(0, 7), 0);
        due("its DEBTS", x.person(0, 1), 10);
        due("one is dead", x.told(1), 6);
    }

    // ---- lend

    private static void lentLater() {
        says("lies under the NAME of A then, with its DEBTS, as by die");
        for (int own : new int[] {0, 9, 10, 60}) {
            BorrowedStones x = on("person 1 60;person 1 " + own + ";", "9");
            due("owes", work(x, "again 15[owe 0 60;];owe 0 30;die 1;year;"), 18);
            law(x, "10");
            due("lends", work(x, "lend 0 1;"), 1);
            due("under", x.person(1, 3), 0);
            due("STONES", x.person(0, 4), 1);
            due("of the LENDER", x.person(0, 1), Math.min(999, 990 + own));
            due("of its own", x.person(1, 1), 0);
            due("the YEAR in which it died", x.person(1, 7), 0);
            due("lives", x.person(1, 2), 0);
        }
    }

    private static void lentLaterRefused() {
        says("(REFUSED, if B lives, or lies under a NAME, or A does not LEND to B)");
        BorrowedStones x = on(THREE + "most 1;", "9");
        work(x, "die 0;");
        law(x, "10");
        due("B lives", work(x, "lend 1 2;"), 0);
        due("refused", x.told(10), 1);
        due("A is dead, and B", work(x, "lend 0 0;"), 0);
        due("A lives, and is B", work(x, "lend 1 1;"), 0);
        law(x, "9");
        due("WILL 9", work(x, "lend 1 0;"), 0);
        due("nothing has changed", x.told(5), 60);
        due("nothing has changed", x.told(2), 1);
        law(x, "10");
        due("WILL 10", work(x, "lend 1 0;"), 1);
        due("lies under a NAME", work(x, "lend 2 0;"), 0);
        due("lies under that NAME", work(x, "lend 1 0;"), 0);
        due("under", x.person(0, 3), 1);
        law(x, "9");
        work(x, "die 2;");
        law(x, "10");
        due("as many STONES as N", work(x, "lend 1 2;"), 0);
        due("A is dead", work(x, "lend 0 2;"), 0);
        due("under none", x.told(2), 4);
        due("refused", x.told(10), 1);
        // One is dead as it is asked who lends later, not one more.
        BorrowedStones y = on(THREE, "0");
        work(y, "die 0;");
        law(y, "9+dead/2");
        due("one is dead", work(y, "lend 1 0;"), 0);
        law(y, "9+dead");
        due("one is dead", work(y, "lend 1 0;"), 1);
    }

    // ---- pay, owe, year

    private static void pays() {
        says("pay: A owes N less, 0 at least (REFUSED, if it owes nothing; who is dead may pay)");
        BorrowedStones x = on("person 9 60;person 9 5;person 9 0;", "0");
        due("all but 1", work(x, "pay 0 59;"), 1);
        due("owes", x.person(0, 1), 1);
        due("the last", work(x, "pay 0 1;"), 1);
        due("owes", x.person(0, 1), 0);
        due("nothing", work(x, "pay 0 1;"), 0);
        due("refused", x.told(10), 1);
        due("more than it owes", work(x, "pay 1 60;"), 1);
        due("0 at least", x.person(1, 1), 0);
        due("nothing at first", work(x, "pay 2 60;"), 0);
        due("together", x.told(5), 0);
        BorrowedStones y = on("person 9 60;person 9 5;", "0");
        due("the dead pays", work(y, "die 0;pay 0 60;"), 2);
        due("owes", y.person(0, 1), 0);
        due("the dead owes nothing", work(y, "pay 0 1;"), 0);
    }

    private static void owes() {
        says("owe: A owes N more, 999 at most (REFUSED, if A is dead, or owes 999)");
        BorrowedStones x = on("person 9 60;person 9 0;person 9 0;", "0");
        due("970", work(x, "pay 0 50;again 16[owe 0 60;];"), 17);
        due("970", x.person(0, 1), 970);
        due("998", work(x, "owe 0 28;"), 1);
        due("998", x.person(0, 1), 998);
        due("999", work(x, "owe 0 1;"), 1);
        due("999", x.person(0, 1), 999);
        due("no more", work(x, "owe 0 1;owe 0 60;"), 0);
        due("refused", x.told(10), 2);
        due("999", x.person(0, 1), 999);
        due("from 998", work(x, "pay 0 1;owe 0 60;"), 2);
        due("999 at most", x.person(0, 1), 999);
        due("dead", work(x, "die 1;owe 1 1;"), 1);
        due("refused", x.told(10), 1);
        due("the dead owes nothing more", x.person(1, 1), 0);
        due("pays from 999", work(x, "pay 0 60;"), 1);
        due("939", x.person(0, 1), 939);
    }

    private static void years() {
        says("year (REFUSED from YEAR 900 on)");
        BorrowedStones x = on("person 9 0;person 9 0;", "10");
        work(x, "die 1;");
        for (int i = 0; i < 4; i++) {
            due("years", work(x, "again 60[year;];again 60[year;];again 60[year;];"), 180);
        }
        due("years", work(x, "again 60[year;];again 60[year;];again 59[year;];"), 179);
        due("899", x.told(3), 899);
        due("owes a STONE each", x.person(0, 1), 899);
        due("the 900th", work(x, "year;"), 1);
        due("900", x.told(3), 900);
        due("owes", x.person(0, 1), 900);
        due("no more", work(x, "year;"), 0);
        due("refused", x.told(10), 1);
        due("900", x.told(3), 900);
        due("nothing has changed", x.person(0, 1), 900);
        due("the other STEPS go on", work(x, "year;owe 0 1;die 0;year;"), 2);
        due("died", x.person(0, 7), 900);
        due("the latest", x.latest(1), 900);
    }

    private static void yearsAddStones() {
        says("who lives owes as much more as it bears STONES, 999 at most; the YEAR is one more");
        BorrowedStones x = on("person 9 0;".repeat(6) + "most 4;", "20-person");
        due("four to 0", work(x, "die 2;die 3;die 4;die 5;"), 4);
        due("994", work(x, "again 16[owe 0 60;];owe 0 34;"), 17);
        due("994", x.person(0, 1), 994);
        due("a year", work(x, "year;"), 1);
        due("four more", x.person(0, 1), 998);
        due("who bears none", x.person(1, 1), 0);
        due("ahead", x.ahead(1, 0), 999);
        due("a year", work(x, "year;"), 1);
        due("999 at most", x.person(0, 1), 999);
        due("a year is no REFUSED one", work(x, "year;"), 1);
        due("999 at most", x.person(0, 1), 999);
        due("the YEAR", x.told(3), 3);
        due("dies", work(x, "die 0;pay 1 60;year;year;"), 4);
        due("the dead owes nothing more, who bears STONES", x.person(0, 1), 0);
        due("one STONE", x.person(1, 1), 999 - 60 + 2);
    }

    // ---- WORK

    private static void done() {
        says("how many STEPS were done (agains not counted, nor REFUSED ones)");
        BorrowedStones x = on(THREE);
        due("no STEP", work(x, ""), 0);
        due("agains alone", work(x, "again 3[];again 0[die 0;];"), 0);
        due("refused", x.told(10), 0);
        due("one of each", work(x, "again 2[pay 0 60;];"), 1);
        due("refused", x.told(10), 1);
        due("all refused", work(x, "lend 0 1;pay 0 1;lend 1 1;"), 0);
        due("refused", x.told(10), 3);
        says("STEPS are done in order; one that can't be done is REFUSED, and changes nothing");
        due("in order", work(x, "lend 1 0;owe 0 5;pay 0 6;die 0;owe 0 1;pay 0 1;"), 3);
        due("refused", x.told(10), 3);
        due("all that 1 owes", x.person(1, 1), 20);
    }

    private static void begunAtMost() {
        says("200 STEPS at most are begun by one WORK");
        String years = "again 60[year;];again 60[year;];again 60[year;];";
        due("199", work(on(THREE), years + "again 15[year;];"), 195);
        BorrowedStones x = on(THREE);
        due("200", work(x, years + "again 15[year;];die 0;"), 196);
        due("the 200th", x.told(1), 6);
        x = on(THREE);
        due("one more", work(x, years + "again 16[year;];die 0;"), 196);
        due("is left out", x.told(1), 7);
        due("and not REFUSED", x.told(10), 0);
        x = on(THREE);
        due("within an again", work(x, years + "again 60[year;];die 0;"), 196);
        due("the YEAR", x.told(3), 196);
        due("another WORK has its own", work(x, years + "again 16[year;];"), 196);
        due("the YEAR", x.told(3), 392);
        says("(an again, too, each time it is come to; REFUSED ones, too), what would come behind is left out");
        x = on("person 1 0;");
        due("REFUSED ones", work(x, "again 60[pay 0 1;];again 60[pay 0 1;];again 60[pay 0 1;];again 60[pay 0 1;];"), 0);
        due("refused", x.told(10), 196);
        due("with the 200th", work(x, "again 60[pay 0 1;];again 60[pay 0 1;];again 60[pay 0 1;];again 15[pay 0 1;];year;year;"), 1);
        due("refused", x.told(10), 195);
        String empty = "again 60[again 0[];again 0[];again 0[];];";
        due("agains of nothing", work(on(THREE), empty + "again 17[year;];die 0;die 1;"), 18);
        due("agains of nothing", work(on(THREE), empty + "again 18[year;];die 0;"), 18);
        due("agains of no STEP", work(on(THREE), "again 60[again 60[];again 60[];again 60[];];again 17[year;];die 0;die 1;"), 18);
        // 1; then 49 rounds of 4; then an again and 2 of its 3.
        due("each time", work(on(THREE), "again 50[again 3[year;];];"), 149);
        due("the again is the 200th", work(on(THREE), years + "again 15[year;];again 60[year;];"), 195);
        due("the again is the 199th", work(on(THREE), years + "again 14[year;];again 60[year;];"), 195);
        due("no end but that", work(on(THREE), "again 60[again 60[again 60[again 60[again 60[again 60[];];];];];];year;"), 0);
    }

    private static void agains() {
        says("\"again\" N \"[\" { STEP \";\" } \"]\" (N 0 to 60)");
        due("not at all", work(on(THREE), "again 0[year;year;];"), 0);
        due("once", work(on(THREE), "again 1[year;year;];"), 2);
        due("60 times", work(on(THREE), "again 60[year;year;];year;"), 121);
        due("one in another", work(on(THREE), "again 3[year;again 4[year;];again 0[year;];year;];year;"), 19);
        due("six", work(on(THREE), "again 2[again 1[again 2[again 1[again 2[again 1[year;];];];];];];"), 8);
        due("not at all, with others in it", work(on(THREE), "again 0[again 5[year;];again 5[year;];];year;"), 1);
        BorrowedStones x = on("person 9 0;person 9 0;", "99");
        due("in order", work(x, "again 2[owe 0 2;again 2[pay 0 1;];pay 0 1;];"), 6);
        due("refused", x.told(10), 2);
    }

    private static void truly() {
        says("is that PERSON dead, the NAME that one lies under, and so on, until one who lives, or none");
        BorrowedStones x = on(EIGHT, "20+person");
        for (int p = 7; p > 0; p--) {
            work(x, "die " + p + ";");
            for (int dead = p; dead <= 7; dead++) {
                due("who lives", x.truly(dead), p - 1);
                due("by NAMES", x.chain(dead), dead - p + 1);
            }
            due("the longest", x.told(11), 8 - p);
        }
        due("who lives", x.truly(0), -1);
        due("who lives", x.chain(0), 0);
        due("below it", x.below(0), 254);
        work(x, "die 0;");
        for (int dead = 0; dead <= 7; dead++) {
            due("none in the end", x.truly(dead), -1);
            due("none counts nothing", x.chain(dead), dead);
        }
        due("the longest", x.told(11), 7);
        BorrowedStones y = on(THREE, "0");
        work(y, "die 0;");
        due("none", y.truly(0), -1);
        due("none counts nothing", y.chain(0), 0);
        due("the longest", y.told(11), 0);
    }

    private static void longest() {
        says("11 the longest LONG of all dead (0: none)");
        due("none is dead", on(THREE).told(11), 0);
        for (int p = 0; p < 3; p++) {
            BorrowedStones x = on(THREE);
            work(x, "die " + p + ";");
            due("of one", x.told(11), 1);
        }
        BorrowedStones x = on(EIGHT, "20+person");
        work(x, "die 0;die 1;die 7;die 6;");
        // 0 and 1 lie under 7, 7 under 6, 6 under 5.
        due("of the first", x.told(11), 3);
        due("of the first", x.chain(0), 3);
        due("of the last", x.chain(7), 2);
    }

    // ---- WORKS, IMAGES

    /** YEAR, then of each PERSON: DEBTS, under whose NAME it lies, the YEAR in which it died. */
    private static String all(BorrowedStones x) {
        StringBuilder all = new StringBuilder().append(x.told(3)).append(':');
        for (int p = 0; p < x.told(0); p++) {
            all.append(' ').append(x.person(p, 1)).append('/').append(x.person(p, 3)).append('/').append(x.person(p, 7));
        }
        return all.toString();
    }

    private static void sixteenWorks() {
        says("16 WORKS are there that were not undone");
        BorrowedStones x = on(THREE);
        for (int works = 1; works <= 16; works++) {
            due("a WORK", work(x, works % 2 == 0 ? "" : "owe 0 1;"), works % 2);
            due("WORKS", x.count(2), works);
        }
        due("a 17th", work(x, "owe 0 1;"), -20);
        due("WORKS", x.count(2), 16);
        due("nothing is done", x.person(0, 1), 18);
        says("-20 behind the exception, ahead of the FAULT (nothing is read, there is no FAULT, the TAPE is empty then)");
        fed(x, "year;");
        illegal("behind the exception", () -> x.work(21));
        illegal("behind the exception", () -> x.work(-1));
        due("the TAPE stays", x.count(1), 20);
        due("ahead of the FAULT", x.work(20), -20);
        due("no FAULT", x.fault(), -1);
        due("the TAPE", x.count(1), 0);
        due("of no bytes", x.work(0), -20);
        due("a LAW is none", law(x, "10"), 1);
        due("a BOOK is none", book(x, ""), 0);
        due("undone", x.undo(), 15);
        due("a FAULT, now", work(x, "?"), -9);
        due("one more", work(x, "owe 0 1;"), 1);
        due("none", work(x, ""), -20);
        for (int works = 15; works >= 0; works--) {
            due("undone", x.undo(), works);
        }
        due("no more", x.undo(), -1);
        due("as at first", x.person(0, 1), 10);
    }

    private static void undone() {
        says("The latest WORK that was done (of no STEPS, too) is undone: how many are left; -1: there is none.");
        BorrowedStones x = on(THREE, "10");
        due("none", x.undo(), -1);
        work(x, "");
        due("of no STEPS", x.undo(), 0);
        due("none", x.undo(), -1);
        work(x, "lend 0 1;");
        due("of REFUSED ones", x.undo(), 0);
        due("with a FAULT", work(x, "die 0;?"), -9);
        due("none", x.undo(), -1);
        work(x, "die 0;die 1;again 9[year;];pay 2 4;owe 2 7;");
        due("STONES", x.told(4), 2);
        due("undone", x.undo(), 0);
        due("the YEAR", x.told(3), 0);
        for (int p = 0; p < 3; p++) {
            due("DEBTS", x.person(p, 1), 10 * (p + 1));
            due("lives", x.person(p, 2), 1);
            due("under", x.person(p, 3), -1);
            due("STONES", x.person(p, 4), 0);
            due("died", x.person(p, 7), -1);
        }
        due("the LAW stays", x.will(0, 1), 10);
    }

    private static void undoneByOneWork() {
        says("The latest WORK that was done (of no STEPS, too) is undone");
        BorrowedStones x = on(THREE + "person 0 4;person 5 5;", "10+person-dead*dead");
        String[] works = {"die 0;year;", "die 3;year;year;", "die 1;pay 4 3;", "owe 2 7;die 2;year;", "die 4;pay 4 60;"};
        String[] then = {"0: 10/-1/-1 20/-1/-1 30/-1/-1 4/-1/-1 5/-1/-1",
            "1: 0/4/0 20/-1/-1 30/-1/-1 4/-1/-1 16/-1/-1",
            "3: 0/4/0 20/-1/-1 30/-1/-1 0/4/1 24/-1/-1",
            "3: 0/4/0 20/-1/3 30/-1/-1 0/4/1 21/-1/-1",
            "4: 0/4/0 20/-1/3 37/-1/3 0/4/1 23/-1/-1",
            "4: 0/4/0 20/-1/3 37/-1/3 0/4/1 0/-1/4"};
        for (int i = 0; i < works.length; i++) {
            due("ahead of a WORK", all(x), then[i]);
            work(x, works[i]);
        }
        due("behind the last", all(x), then[works.length]);
        due("an IMAGE", x.image(), 1);
        for (int i = works.length - 1; i >= 0; i--) {
            due("undone", x.undo(), i);
            due("as ahead of it", all(x), then[i]);
        }
        due("restored", x.restore(), 0);
        due("as in the IMAGE", all(x), then[works.length]);
        for (int i = works.length - 1; i >= 0; i--) {
            due("undone", x.undo(), i);
            due("as ahead of it", all(x), then[i]);
        }
    }

    private static void refusedSteps() {
        says("10 STEPS REFUSED by the latest WORK (0 ahead of any, behind peninsula() without a FAULT, undo(), restore();"
            + " a FAULT, -20, -1 leave it)");
        BorrowedStones x = on(THREE);
        due("ahead of any", x.told(10), 0);
        refuses(x, 2);
        due("a WORK with a FAULT", work(x, "die 9;"), -8);
        due("leaves it", x.told(10), 2);
        due("a LAW with a FAULT", law(x, ""), -9);
        due("a BOOK with a FAULT", book(x, "9"), -8);
        due("a PENINSULA with a FAULT", peninsula(x, ";"), -9);
        due("leave it", x.told(10), 2);
        due("a LAW", law(x, "15"), 1);
        due("a BOOK", book(x, "0 0;"), 1);
        due("leave it", x.told(10), 2);
        due("-1", x.restore(), -1);
        due("leaves it", x.told(10), 2);
        due("an IMAGE", x.image(), 1);
        due("leaves it", x.told(10), 2);
        due("restored", x.restore(), 0);
        due("0 then", x.told(10), 0);
        refuses(x, 3);
        due("undone", x.undo(), 1);
        due("0 then, not that of the WORK ahead", x.told(10), 0);
        refuses(x, 3);
        due("a WORK that refuses none", work(x, "year;"), 1);
        due("0 then", x.told(10), 0);
        refuses(x, 1);
        due("a PENINSULA", peninsula(x, THREE), 3);
        due("0 then", x.told(10), 0);
        refuses(x, 1);
        due("undone", x.undo(), 0);
        refuses(x, 4);
        due("undone", x.undo(), 0);
        due("-1", x.undo(), -1);
        due("leaves it", x.told(10), 0);
        for (int i = 0; i < 16; i++) {
            refuses(x, 5);
        }
        for (int images = 1; images <= 3; images++) {
            due("IMAGES", x.image(), images);
        }
        due("-1", x.image(), -1);
        due("-20", work(x, "year;"), -20);
        illegal("an exception", () -> x.work(1));
        due("leave it", x.told(10), 5);
    }

    private static void refuses(BorrowedStones x, int many) {
        due("all REFUSED", work(x, "again " + many + "[lend 0 1;];"), 0);
        due("REFUSED", x.told(10), many);
    }

    private static void threeImages() {
        says("how many there are; -1: there are 3.");
        BorrowedStones x = on(THREE);
        for (int images = 1; images <= 3; images++) {
            due("IMAGES", x.count(0), images - 1);
            due("one more", x.image(), images);
            work(x, "year;");
        }
        due("a fourth", x.image(), -1);
        due("IMAGES", x.count(0), 3);
        says("All that is as in the latest IMAGE, which is gone: how many are left; -1: there is none.");
        for (int left = 2; left >= 0; left--) {
            due("left", x.restore(), left);
            due("the YEAR", x.told(3), left);
            due("WORKS", x.count(2), left);
            due("IMAGES", x.count(0), left);
        }
        due("none", x.restore(), -1);
        due("the YEAR stays", x.told(3), 0);
        due("one again", x.image(), 1);
        work(x, "year;");
        due("two", x.image(), 2);
        due("one is left", x.restore(), 1);
        due("a second one again", x.image(), 2);
        due("a third", x.image(), 3);
        due("a fourth", x.image(), -1);
    }

    private static void imagesKeepWorks() {
        says("An IMAGE of all that WORK changes, and of WORKS that can be undone");
        BorrowedStones x = on(THREE);
        due("of no WORK", x.image(), 1);
        for (int i = 0; i < 16; i++) {
            work(x, "owe 0 1;");
        }
        due("of 16", x.image(), 2);
        while (x.undo() > 0) {
            due("one less", x.person(0, 1), 10 + x.count(2));
        }
        work(x, "die 0;year;");
        law(x, "77");
        book(x, "0 1;1 1;");
        due("restored", x.restore(), 1);
        due("16 WORKS", x.count(2), 16);
        due("full", work(x, "year;"), -20);
        due("DEBTS", x.person(0, 1), 26);
        due("lives", x.person(0, 2), 1);
        due("the YEAR", x.told(3), 0);
        due("the LAW is none of that", x.will(0, 1), 77);
        due("nor the BOOK", x.told(9), 2);
        for (int works = 15; works >= 0; works--) {
            due("undone", x.undo(), works);
            due("DEBTS", x.person(0, 1), 10 + works);
        }
        work(x, "year;");
        due("restored", x.restore(), 0);
        due("no WORK", x.count(2), 0);
        due("nothing to undo", x.undo(), -1);
        due("the YEAR", x.told(3), 0);
    }

    private static void threeImagesOfSixteen() {
        says("An IMAGE of all that WORK changes, and of WORKS that can be undone");
        BorrowedStones x = on(THREE);
        for (int p = 0; p < 3; p++) {
            for (int i = 0; i < 16; i++) {
                work(x, "owe " + p + " 1;");
            }
            due("IMAGES", x.image(), p + 1);
            while (x.count(2) > 0) {
                x.undo();
            }
        }
        for (int p = 2; p >= 0; p--) {
            due("left", x.restore(), p);
            due("WORKS", x.count(2), 16);
            due("DEBTS of the IMAGE", x.person(p, 1), 10 * (p + 1) + 16);
            for (int works = 15; works >= 0; works--) {
                due("undone", x.undo(), works);
                due("DEBTS of the IMAGE's WORKS", x.person(p, 1), 10 * (p + 1) + works);
                due("the YEAR", x.told(3), 0);
            }
            due("DEBTS of all", x.told(5), 60);
        }
    }

    private static void peninsulaEndsAll() {
        says("are the PENINSULA (YEAR 0; no LAW, BOOK, IMAGES, nothing to undo)");
        BorrowedStones x = on(THREE + "friend 0 1;most 1;", "99");
        book(x, "0 1;");
        work(x, "die 0;year;");
        x.image();
        x.image();
        due("another", peninsula(x, "person 2 3;person 4 5;"), 2);
        due("the YEAR", x.told(3), 0);
        due("who lives", x.told(1), 3);
        due("STONES", x.told(4), 0);
        due("DEBTS", x.told(5), 8);
        due("friends", x.person(0, 6), 0);
        due("most", x.told(8), 3);
        due("the LAW without one", x.will(1, 0), 12);
        due("lines", x.told(9), 0);
        due("orders by no BOOK", x.fits(3, 0), 2);
        due("IMAGES", x.count(0), 0);
        due("none", x.restore(), -1);
        due("WORKS", x.count(2), 0);
        due("none", x.undo(), -1);
        nobody("a third", () -> x.person(2, 0));
        due("fewer than before", peninsula(x, "person 9 9;"), 1);
        due("DEBTS", x.told(5), 9);
    }
}
