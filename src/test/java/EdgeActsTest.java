/**
 * Each sentence of the document that names a boundary case, by a test of its own that quotes it:
 * what stands, ACTS, LOANS, the row of ACTS, SLOTS, the longest runs. What is refused also stands in RefusalTest.
 */
final class EdgeActsTest {
    private static final int UNKNOWN = -1, BAD = -2, LATE = -3, FULL = -4, NONE = -9;
    private static final int LEAST = Integer.MIN_VALUE, MOST = Integer.MAX_VALUE;
    private static final Due DUE = new Due("EdgeActsTest");

    /** Five roads in a row, each as long as a road may be. */
    private static final String LONGEST_LINE = "R0199R1299R2399R3499R4599";

    private static void due(String call, long got, long want) {
        DUE.due(call, got, want);
    }

    public static void main(String[] args) {
        theState();
        theActs();
        theLoans();
        theRowOfActs();
        theSlots();
        theLongestRun();
        DUE.close();
    }

    // ======== what stands

    private static void theState() {
        atFirst();
        aboutWhat();
        atWalkers();
        anewAtHome();
    }

    /** "At first there are two PLACES, no ROADS, no STEPS." "Both WALKERS are at HOME at first". */
    private static void atFirst() {
        StepsShared x = new StepsShared();
        int[] want = {2, 0, 0, 0, 0, 0, 0, 0, 10000, 0};
        for (int what = 0; what < 10; what++) due("at first " + what, x.about(what), want[what]);
        due("she", x.at(0), 0);
        due("he", x.at(1), 0);
        due("no way", x.walk(0, 1), LATE);
        due("no way for two", x.carry(0, 1), LATE);
        due("no third place", x.walk(0, 2), UNKNOWN);
        due("no errand", x.done(0, 0), UNKNOWN);
        due("none to lend", x.loan(1, false), LATE);
        due("no loan", x.back(), LATE);
        due("no act", x.undo(), LATE);
        due("none kept", x.again(0), LATE);
        due("none kept either", x.again(1), LATE);
        due("judge", x.judge(1, 1, 1), 0);
        due("tour", x.tour(1, 0), 0);
        due("tour by one", x.tour(1, 1), BAD);
        for (int what = 0; what < 4; what++) due("plan " + what, x.plan(what), 0);
        due("live", x.live(), 0);
        due("by turns", x.byTurns(0), 0);
        due("ledger", x.ledger(1, 0, 0), 1);
        due("ledger of one", x.ledger(0, 1, 999), 0);
        due("ends", x.ends(1, 0, 0), 2);
        due("chance", x.chance(10, 0, true), 1);
        due("chance below", x.chance(10, 0, false), 1);
        due("spare", x.spare(10, 100), 0);
        due("borrowed", x.loan(99, true), 99);
        due("keep", x.keep(0), 99);
    }

    /** "PLACES (what = 0) .. bytes of THE TEXT (9). BAD." */
    private static void aboutWhat() {
        StepsShared x = new StepsShared();
        due("about 0", x.about(0), 2);
        due("about 9", x.about(9), 0);
        for (int what : new int[] {-1, 10, 11, LEAST, MOST}) due("about " + what, x.about(what), BAD);
    }

    /** "Where a WALKER is. UNKNOWN." "WALKERS are 0 (she), 1 (he)". */
    private static void atWalkers() {
        StepsShared x = Due.dayOf("V0102R0101");
        x.walk(1, 1);
        due("at 0", x.at(0), 0);
        due("at 1", x.at(1), 1);
        for (int walker : new int[] {-1, 2, 3, LEAST, MOST}) due("at " + walker, x.at(walker), UNKNOWN);
    }

    /** "and when THE DAY is made anew." */
    private static void anewAtHome() {
        StepsShared x = Due.dayOf("V0993R0101R1202E252");
        x.carry(0, 2);
        x.done(1, 0);
        x.loan(5, true);
        x.keep(0);
        x.keep(1);
        x.loan(6, false);
        due("day", x.day(), 3);
        int[] want = {3, 1, 2, 99, 0, 0, 0, 0, 10000, 19};
        for (int what = 0; what < 10; what++) due("anew " + what, x.about(what), want[what]);
        due("she", x.at(0), 0);
        due("he", x.at(1), 0);
        due("nothing done", x.errand(0, 3), 0);
        due("nobody did", x.errand(0, 4), NONE);
        due("no act", x.undo(), LATE);
        due("no loan", x.back(), LATE);
        due("what was kept is gone", x.again(0), LATE);
        due("in both", x.again(1), LATE);
        x.carry(0, 2);
        x.done(0, 0);
        due("this time she did", x.errand(0, 4), 0);
    }

    // ======== ACTS

    private static void theActs() {
        walkJustSoMany();
        walkWhereItIs();
        carryTwiceAsMany();
        carryFromOnePlace();
        doneOnce();
        whoDidEach();
        judgeNoughtAhead();
        judgeOneToEight();
        judgeJustSoMany();
    }

    /** "costs as many STEPS as it is FAR" .. "LATE: .. not so many are LEFT". */
    private static void walkJustSoMany() {
        for (int far : new int[] {1, 9, 10, 99}) {
            for (int walker = 0; walker < 2; walker++) {
                due(far + " of " + far, Due.dayOf(String.format("V%03d2R01%02d", far, far)).walk(walker, 1), 0);
                due(far + " of one more", Due.dayOf(String.format("V%03d2R01%02d", far + 1, far)).walk(walker, 1), 1);
                due(far + " of one less", Due.dayOf(String.format("V%03d2R01%02d", far - 1, far)).walk(walker, 1), LATE);
            }
        }
        due("495 of 495", Due.dayOf("V4956" + LONGEST_LINE).walk(0, 5), 0);
        due("495 of 494", Due.dayOf("V4946" + LONGEST_LINE).walk(0, 5), LATE);
        // out of what both have
        StepsShared x = Due.dayOf("V0052R0103");
        due("she", x.walk(0, 1), 2);
        due("he has not", x.walk(1, 1), LATE);
        // 1 of them goes next door, or comes
        x = Due.dayOf("V0032R0103");
        x.loan(1, false);
        due("one too few", x.walk(0, 1), LATE);
        x.loan(1, true);
        due("just as many", x.walk(0, 1), 0);
    }

    /** "LATE: it is there": also with STEPS enough, and without any. */
    private static void walkWhereItIs() {
        StepsShared x = Due.dayOf("V0992R0101");
        due("home", x.walk(0, 0), LATE);
        x.walk(0, 1);
        due("there", x.walk(0, 1), LATE);
        due("the other one is not", x.walk(1, 1), 97);
        due("none of them", Due.dayOf("V0002R0101").walk(1, 0), LATE);
        due("no way", Due.dayOf("V9993R0101").walk(1, 2), LATE);
    }

    /** "CARRIED: .. twice as many STEPS." "LATE: likewise". */
    private static void carryTwiceAsMany() {
        for (int far : new int[] {1, 9, 50, 99}) {
            for (int walker = 0; walker < 2; walker++) {
                due(far + " of twice", Due.dayOf(String.format("V%03d2R01%02d", 2 * far, far)).carry(walker, 1), 0);
                due(far + " of one more", Due.dayOf(String.format("V%03d2R01%02d", 2 * far + 1, far)).carry(walker, 1), 1);
                due(far + " of one less", Due.dayOf(String.format("V%03d2R01%02d", 2 * far - 1, far)).carry(walker, 1), LATE);
            }
        }
        due("990 of 990", Due.dayOf("V9906" + LONGEST_LINE).carry(1, 5), 0);
        due("990 of 989", Due.dayOf("V9896" + LONGEST_LINE).carry(1, 5), LATE);
        due("where they are", Due.dayOf("V9992R0101").carry(0, 0), LATE);
        due("no way", Due.dayOf("V9993R0101").carry(0, 2), LATE);
    }

    /** "the other one, that is at the same PLACE, comes along" .. "or the other one is elsewhere." */
    private static void carryFromOnePlace() {
        StepsShared x = Due.dayOf("V9993R0101R1201");
        x.walk(0, 1);
        due("she carries none", x.carry(0, 2), LATE);
        due("he carries none", x.carry(1, 2), LATE);
        due("not even to the other one", x.carry(1, 1), LATE);
        due("nor home", x.carry(0, 0), LATE);
        x.walk(1, 1);
        due("both are there", x.carry(1, 2), 995);
        due("she came along", x.at(0), 2);
        due("he went", x.at(1), 2);
        due("she carries him", x.carry(0, 0), 991);
        due("she went", x.at(0), 0);
        due("he came along", x.at(1), 0);
    }

    /** "An ERRAND is DONE once, by one that can, at its PLACE (no STEPS)." */
    private static void doneOnce() {
        StepsShared x = Due.dayOf("V0042R0102E102E050E061E192");
        due("elsewhere", x.done(0, 0), LATE);
        due("he can not", x.done(1, 1), LATE);
        due("she can not", x.done(0, 2), LATE);
        due("she can", x.done(0, 1), 5);
        due("once", x.done(0, 1), LATE);
        due("he can", x.done(1, 2), 6);
        due("once too", x.done(1, 2), LATE);
        x.carry(0, 1);
        due("none is left", x.about(3), 0);
        due("no steps", x.done(1, 0), 0);
        due("worth nothing, but once", x.done(1, 0), LATE);
        due("not by the other one", x.done(0, 0), LATE);
        due("he did", x.errand(0, 4), 1);
        due("the last", x.done(0, 3), 9);
        due("all are done", x.about(4), 15);
        due("their worth", x.about(5), 20);
        due("undone", x.undo(), 4);
        due("once more then", x.done(1, 3), 9);
        due("by him", x.errand(3, 4), 1);
    }

    /** "who did it (4; NONE)": of each by itself, whoever does the next ones. */
    private static void whoDidEach() {
        for (int walker = 0; walker < 2; walker++) {
            StepsShared x = Due.dayOf("V0002E092E082E072E062E052E042");
            for (int e = 0; e < 6; e++) {
                x.done(walker, e);
                for (int f = 0; f < 6; f++) due("who did " + f + " when " + e + " is done", x.errand(f, 4), f <= e ? walker : NONE);
            }
            x.keep(0);
            x.again(0);
            for (int e = 0; e < 6; e++) due("who did " + e + ", gone on from", x.errand(e, 4), walker);
        }
        StepsShared x = Due.dayOf("V0002E092E082E072E062E052E042");
        for (int e = 5; e >= 0; e--) x.done(e / 2 % 2, e);
        for (int e = 0; e < 6; e++) due("who did " + e + " of both's", x.errand(e, 4), e / 2 % 2);
        for (int i = 0; i < 3; i++) x.undo();
        for (int e = 0; e < 6; e++) due("who did " + e + " of those left", x.errand(e, 4), e < 3 ? NONE : e / 2 % 2);
    }

    /** "told as n figures, the first PLACE first": noughts ahead are HOME. */
    private static void judgeNoughtAhead() {
        StepsShared x = Due.dayOf("V9993R0101R1201");
        due("0 from home", x.judge(0, 1, 0), 0);
        due("01", x.judge(0, 2, 1), 0);
        due("10", x.judge(0, 2, 10), NONE);
        x.walk(0, 2);
        due("0 from 2", x.judge(0, 1, 0), NONE);
        due("01 from 2", x.judge(0, 2, 1), NONE);
        due("012 from 2", x.judge(0, 3, 12), NONE);
        due("0000 from 2", x.judge(0, 4, 0), 1);
        due("00000001 from 2", x.judge(0, 8, 1), 1);
        due("he is at home", x.judge(1, 2, 1), 0);
    }

    /** "n WALKS (1 .. 8)" .. "BAD: n, row (0 or more, n figures at most)". */
    private static void judgeOneToEight() {
        StepsShared x = Due.dayOf("V9992R0101");
        int[] row = {0, 1, 10, 101, 1010, 10101, 101010, 1010101, 10101010};
        int most = 0;
        for (int n = 1; n <= 8; n++) {
            most = most * 10 + 9;
            due("judge " + n, x.judge(0, n, row[n]), NONE);
            due(n + " nines", x.judge(0, n, most), 0);
            due("a figure more than " + n, x.judge(0, n, most + 1), BAD);
            due("none of " + n, x.judge(0, n, 0), 0);
            due("-1 of " + n, x.judge(0, n, -1), BAD);
            due("least of " + n, x.judge(0, n, LEAST), BAD);
            due("most of " + n, x.judge(0, n, MOST), BAD);
        }
        for (int n : new int[] {0, -1, 9, 10, LEAST, MOST}) {
            due("judge n " + n, x.judge(0, n, 1), BAD);
            due("judge n " + n + " of nothing", x.judge(0, n, 0), BAD);
        }
        due("the eighth may not", x.judge(0, 8, 10101011), 7);
        due("the eighth is no place", x.judge(0, 8, 10101012), 7);
    }

    /** "the first that may not be (as walk() tells": what is LEFT goes from one WALK to the next. */
    private static void judgeJustSoMany() {
        due("just 24", Due.dayOf("V0242R0103").judge(0, 8, 10101010), NONE);
        due("23", Due.dayOf("V0232R0103").judge(0, 8, 10101010), 7);
        due("just 3", Due.dayOf("V0032R0103").judge(1, 1, 1), NONE);
        due("2", Due.dayOf("V0022R0103").judge(1, 1, 1), 0);
        due("none", Due.dayOf("V0002R0103").judge(1, 2, 10), 0);
        due("5", Due.dayOf("V0052R0103").judge(1, 2, 10), 1);
        due("too few before no place", Due.dayOf("V0052R0103").judge(1, 3, 109), 1);
        due("no place before too few", Due.dayOf("V0052R0103").judge(1, 3, 190), 1);
        StepsShared x = Due.dayOf("V0062R0103");
        due("all", x.judge(0, 2, 10), NONE);
        due("none went", x.about(3), 6);
        due("she is at home", x.at(0), 0);
        due("no act", x.about(6), 0);
    }

    // ======== LOANS

    private static void theLoans() {
        loanOneToNinetyNine();
        loanEightAtMost();
        loanJustSoMany();
        loanOwedWithATenthUp();
        backTheFirst();
        backJustSoMany();
    }

    /** "n STEPS (1 .. 99)" .. "BAD: n (1 .. 99)". */
    private static void loanOneToNinetyNine() {
        for (int n : new int[] {1, 2, 98, 99}) {
            due("lent " + n, Due.dayOf("V0992").loan(n, false), 99 - n);
            due("borrowed " + n, Due.dayOf("V0992").loan(n, true), 99 + n);
        }
        for (int n : new int[] {0, -1, -99, 100, 101, LEAST, MOST}) {
            due("lent " + n, Due.dayOf("V9992").loan(n, false), BAD);
            due("borrowed " + n, Due.dayOf("V9992").loan(n, true), BAD);
        }
    }

    /** "LOANS (8 at most" .. "FULL: 8 LOANS." */
    private static void loanEightAtMost() {
        for (int lent = 0; lent <= 8; lent++) {
            StepsShared x = Due.dayOf("V9992");
            for (int i = 0; i < 8; i++) {
                due("loan " + i, x.loan(i + 1, i >= lent) > 0 ? 1 : 0, 1);
                due("loans then", x.about(7), i + 1);
            }
            int left = x.about(3);
            due("one more lent", x.loan(1, false), FULL);
            due("one more borrowed", x.loan(1, true), FULL);
            due("8 are there", x.about(7), 8);
            due("left", x.about(3), left);
            due("8 acts", x.about(6), 8);
            x.back();
            due("there is room for one", x.loan(9, true) > 0 ? 1 : 0, 1);
            due("and not for two", x.loan(9, true), FULL);
            x.undo();
            due("one is undone", x.about(7), 7);
            due("there is room again", x.loan(9, false) > 0 ? 1 : 0, 1);
            due("once", x.loan(9, false), FULL);
        }
    }

    /** "LATE: LENT, and not so many are LEFT": BORROWED ones ask for none. */
    private static void loanJustSoMany() {
        for (int n : new int[] {1, 50, 99}) {
            due("all " + n, Due.dayOf(String.format("V%03d2", n)).loan(n, false), 0);
            due("one too few for " + n, Due.dayOf(String.format("V%03d2", n - 1)).loan(n, false), LATE);
            due("borrowed with none", Due.dayOf("V0002").loan(n, true), n);
        }
    }

    /** "n and a tenth of it, up, are owed for it." */
    private static void loanOwedWithATenthUp() {
        int[][] owed = {{1, 2}, {9, 10}, {10, 11}, {11, 13}, {19, 21}, {20, 22}, {21, 24}, {50, 55}, {51, 57}, {89, 98},
            {90, 99}, {91, 101}, {98, 108}, {99, 109}};
        for (int[] o : owed) {
            StepsShared x = Due.dayOf("V9992");
            x.loan(o[0], false);
            due("owed to them for " + o[0], x.about(8), 10000 + o[1]);
            due("it comes", x.back(), 999 - o[0] + o[1]);
            due("no more owed", x.about(8), 10000);
            x.loan(o[0], true);
            due("owed by them for " + o[0], x.about(8), 10000 - o[1]);
            due("it goes", x.back(), 999);
            due("no more owed either", x.about(8), 10000);
        }
        StepsShared all = Due.dayOf("V9992");
        for (int i = 0; i < 8; i++) all.loan(99, false);
        due("8 of the most lent", all.about(8), 10872);
        all = new StepsShared();
        for (int i = 0; i < 8; i++) all.loan(99, true);
        due("8 of the most borrowed", all.about(8), 9128);
        // each for itself: a tenth up of 1 and of 1 is two, not one
        all = new StepsShared();
        all.loan(1, true);
        all.loan(1, true);
        due("each for itself", all.about(8), 9996);
    }

    /** "the first LOAN that there is is given back" .. "(those behind it are one less)". */
    private static void backTheFirst() {
        StepsShared x = Due.dayOf("V9992");
        for (int n = 1; n <= 8; n++) x.loan(10 * n, n % 2 == 0);
        int left = 999 - 10 + 20 - 30 + 40 - 50 + 60 - 70 + 80;
        for (int n = 1; n <= 8; n++) {
            left += n % 2 == 0 ? -11 * n : 11 * n;
            due("back " + n, x.back(), left);
            due("loans then", x.about(7), 8 - n);
        }
        due("none is there", x.back(), LATE);
        due("nothing owed", x.about(8), 10000);
        x.loan(1, false);
        due("the next is the first", x.back(), left + 1);
    }

    /** "LATE: there is no LOAN, or not so many are LEFT." */
    private static void backJustSoMany() {
        due("no loan", Due.dayOf("V9992").back(), LATE);
        StepsShared x = Due.dayOf("V0012");
        x.loan(10, true);
        due("just 11", x.back(), 0);
        x = Due.dayOf("V0002");
        x.loan(10, true);
        due("10 for 11", x.back(), LATE);
        due("it stays", x.about(7), 1);
        x.loan(1, true);
        due("11 for 11", x.back(), 0);
        due("nought for 2", x.back(), LATE);
        // what comes needs nothing LEFT
        x = Due.dayOf("V0992");
        x.loan(99, false);
        due("with none left", x.back(), 109);
        // the first is told, though the second could be given back
        x = Due.dayOf("V0502R0145");
        x.loan(50, true);
        x.loan(5, false);
        x.walk(0, 1);
        due("50 for 55", x.back(), LATE);
        due("both stay", x.about(7), 2);
    }

    // ======== the row of ACTS

    private static void theRowOfActs() {
        eachKindIsAnAct();
        actsSixteenAtMost();
        actsForgottenOneByOne();
        undoEmpty();
        undoEachKind();
    }

    /** "ACTS (WALKS, CARRIED ones, ERRANDS, LOANS, BACK) are a row". */
    private static void eachKindIsAnAct() {
        StepsShared x = Due.dayOf("V0992R0101E152");
        x.walk(0, 1);
        due("a walk", x.about(6), 1);
        x.walk(1, 1);
        x.carry(0, 0);
        due("a carried one", x.about(6), 3);
        x.carry(1, 1);
        x.done(0, 0);
        due("an errand", x.about(6), 5);
        x.loan(1, true);
        due("a loan", x.about(6), 6);
        x.loan(1, false);
        due("a lent one", x.about(6), 7);
        x.back();
        due("back", x.about(6), 8);
        x.keep(0);
        x.judge(0, 1, 0);
        x.wipe();
        x.write(1, 'V');
        due("no act else", x.about(6), 8);
    }

    /** "(16 at most; when it is full, the first one is forgotten)". */
    private static void actsSixteenAtMost() {
        for (int n : new int[] {15, 16, 17, 31, 32, 33, 100}) {
            StepsShared x = Due.dayOf("V9992R0101");
            for (int i = 1; i <= n; i++) {
                x.walk(0, i % 2);
                due("acts after " + i, x.about(6), Math.min(i, 16));
            }
            int can = Math.min(n, 16);
            for (int i = 1; i <= can; i++) {
                due("undo " + i + " of " + n, x.undo(), can - i);
                due("left after it", x.about(3), 999 - n + i);
                due("where after it", x.at(0), (n - i) % 2);
            }
            due("no more of " + n, x.undo(), LATE);
            due("the first ones stay", x.about(3), 999 - n + can);
        }
    }

    /** The same, when some are undone between. */
    private static void actsForgottenOneByOne() {
        StepsShared x = Due.dayOf("V9992R0101");
        for (int i = 1; i <= 20; i++) x.walk(0, i % 2);
        for (int i = 0; i < 10; i++) x.undo();
        due("6 are there", x.about(6), 6);
        due("10 walks stand", x.about(3), 989);
        for (int i = 11; i <= 20; i++) x.walk(0, i % 2);
        due("16 are there", x.about(6), 16);
        x.loan(7, true);
        due("still 16", x.about(6), 16);
        for (int i = 15; i >= 0; i--) due("undo to " + i, x.undo(), i);
        due("5 walks stay", x.about(3), 994);
        due("she is at 1", x.at(0), 1);
        due("no more", x.undo(), LATE);
    }

    /** "LATE: there is none." */
    private static void undoEmpty() {
        StepsShared x = new StepsShared();
        due("at first", x.undo(), LATE);
        x.loan(5, true);
        due("one", x.undo(), 0);
        due("no more", x.undo(), LATE);
        x.walk(0, 1);
        due("a refused one is none", x.undo(), LATE);
        due("nothing left", x.about(3), 0);
        x = Due.dayOf("V0992R0101");
        x.walk(0, 1);
        x.day();
        due("anew", x.undo(), LATE);
        x.walk(0, 1);
        x.keep(0);
        due("kept ones stay", x.about(6), 1);
        x.again(0);
        due("gone on from: none", x.undo(), LATE);
    }

    /** "the last one can be undone": each kind wholly. */
    private static void undoEachKind() {
        StepsShared x = Due.dayOf("V0992R0103E152E191");
        x.walk(1, 1);
        x.done(1, 0);
        due("undo done", x.undo(), 1);
        due("not done", x.errand(0, 3), 0);
        due("nobody", x.errand(0, 4), NONE);
        x.walk(0, 1);
        due("she may then", x.done(0, 0), 5);
        due("she did", x.errand(0, 4), 0);
        x.undo();
        x.undo();
        due("he may again", x.done(1, 0), 5);
        x.done(1, 1);
        x.undo();
        due("the other stays done", x.about(4), 1);
        due("by him", x.errand(0, 4), 1);
        x.walk(0, 1);
        x.carry(1, 0);
        x.undo();
        due("she is there", x.at(0), 1);
        due("he is there", x.at(1), 1);
        due("their steps", x.about(3), 93);
        for (int n = 1; n <= 8; n++) x.loan(n, true);
        x.back();
        due("7 loans", x.about(7), 7);
        x.undo();
        due("8 again", x.about(7), 8);
        due("as much owed", x.about(8), 10000 - 36 - 8);
        due("full again", x.loan(1, true), FULL);
        due("the first is the first again", x.back(), 93 + 36 - 2);
        x.undo();
        x.undo();
        due("the last loan is gone", x.about(8), 10000 - 28 - 7);
    }

    // ======== SLOTS

    private static void theSlots() {
        slotsTwo();
        slotsNoneKept();
        slotsKeepAll();
        slotsKeepEightLoans();
        slotsNoActs();
        slotsStayAsKept();
    }

    /** "SLOTS 0 .. 1" .. "UNKNOWN." */
    private static void slotsTwo() {
        StepsShared x = Due.dayOf("V0502R0101");
        for (int slot : new int[] {-1, 2, 3, LEAST, MOST}) {
            due("keep " + slot, x.keep(slot), UNKNOWN);
            due("again " + slot, x.again(slot), UNKNOWN);
        }
        due("keep 0", x.keep(0), 50);
        x.walk(0, 1);
        due("keep 1", x.keep(1), 49);
        due("again 0", x.again(0), 50);
        due("she is at home", x.at(0), 0);
        due("again 1", x.again(1), 49);
        due("she is at 1", x.at(0), 1);
    }

    /** "LATE: none were kept." */
    private static void slotsNoneKept() {
        StepsShared x = Due.dayOf("V0502R0101");
        due("again 0", x.again(0), LATE);
        due("again 1", x.again(1), LATE);
        x.keep(1);
        due("only 1 was kept", x.again(0), LATE);
        due("1 was", x.again(1), 50);
        due("as often as one likes", x.again(1), 50);
        x.day();
        due("what was kept is gone", x.again(1), LATE);
        x.keep(0);
        due("only 0 was kept", x.again(1), LATE);
        Due.tell(x, "V");
        due("a refused day", x.day(), LATE);
        due("leaves it kept", x.again(0), 50);
    }

    /** "keep where WALKERS are, what is LEFT, DONE, LOANS". */
    private static void slotsKeepAll() {
        StepsShared x = Due.dayOf("V9993R0101R1201E152E161");
        x.walk(0, 2);
        x.walk(1, 1);
        x.done(1, 0);
        for (int n = 1; n <= 8; n++) x.loan(n, n % 2 == 0);
        due("keep", x.keep(0), 996 - 1 + 2 - 3 + 4 - 5 + 6 - 7 + 8);
        x.undo();
        x.back();
        x.done(1, 1);
        x.walk(0, 0);
        x.walk(1, 2);
        x.keep(1);
        due("he did the other", x.errand(1, 4), 1);
        due("again", x.again(0), 1000);
        due("she", x.at(0), 2);
        due("he", x.at(1), 1);
        due("done", x.about(4), 1);
        due("by him", x.errand(0, 4), 1);
        due("not the other", x.errand(1, 4), NONE);
        due("loans", x.about(7), 8);
        due("owed", x.about(8), 10000 - 4);
        due("full", x.loan(1, true), FULL);
        for (int n = 1, left = 1000; n <= 8; n++) {
            left += n % 2 == 0 ? -n - 1 : n + 1;
            due("back " + n, x.back(), left);
        }
    }

    /** "LOANS (8 at most": all 8 are kept, and undone to, whatever came in their places. */
    private static void slotsKeepEightLoans() {
        for (boolean byUndo : new boolean[] {false, true}) {
            StepsShared x = Due.dayOf("V9992");
            for (int n = 1; n <= 8; n++) x.loan(10 * n, false);
            x.keep(0);
            x.back();
            x.loan(99, false);
            if (byUndo) {
                x.undo();
                x.undo();
            } else {
                x.again(0);
            }
            due("eight", x.about(7), 8);
            due("owed for them", x.about(8), 10396);
            for (int n = 1, left = 639; n <= 8; n++) {
                left += 11 * n;
                due("back " + n, x.back(), left);
            }
        }
    }

    /** "(no ACTS when one goes on)". */
    private static void slotsNoActs() {
        StepsShared x = Due.dayOf("V9992R0101");
        for (int i = 1; i <= 17; i++) x.walk(0, i % 2);
        x.keep(0);
        due("keeping leaves them", x.about(6), 16);
        due("one is undone", x.undo(), 15);
        due("gone on", x.again(0), 982);
        due("no acts", x.about(6), 0);
        due("none to undo", x.undo(), LATE);
        due("refused", x.again(1), LATE);
        x.walk(0, 0);
        due("a new one", x.about(6), 1);
        due("refused again", x.again(1), LATE);
        due("it stays", x.about(6), 1);
        due("it is undone", x.undo(), 0);
        due("as it was kept", x.about(3), 982);
        due("no more", x.undo(), LATE);
    }

    /** "They are as they were kept": what comes later does not change what was kept. */
    private static void slotsStayAsKept() {
        StepsShared x = Due.dayOf("V0502R0101E152");
        x.loan(10, true);
        x.keep(0);
        x.back();
        x.loan(20, false);
        x.walk(0, 1);
        x.done(0, 0);
        due("first", x.again(0), 60);
        x.carry(0, 1);
        x.done(1, 0);
        due("second", x.again(0), 60);
        due("she", x.at(0), 0);
        due("he", x.at(1), 0);
        due("nothing done", x.about(4), 0);
        due("one loan", x.about(8), 9989);
        x.walk(1, 1);
        due("kept over it", x.keep(0), 59);
        x.walk(1, 0);
        due("the later one", x.again(0), 59);
        due("he then", x.at(1), 1);
    }

    // ======== 512 calls

    private static void theLongestRun() {
        mostThatCanBeLeft();
        ringOverAndOver();
    }

    /** More than 999 can be LEFT: lent ones come back with more, as often as 512 calls let them. */
    private static void mostThatCanBeLeft() {
        StepsShared x = Due.dayOf("V9996" + LONGEST_LINE + "E552E592");
        int left = 999;
        for (int i = 0; i < 200; i++) {
            x.loan(99, false);
            left += 10;
            due("back " + i, x.back(), left);
        }
        due("left", x.about(3), 2999);
        due("plan", x.plan(0), 14);
        due("plan steps", x.plan(1), 990);
        due("judge", x.judge(0, 6, 505050), NONE);
        due("judge one more", x.judge(0, 7, 5050505), 6);
        due("carry", x.carry(0, 5), 2009);
        due("by turns", x.byTurns(0), 9);
        due("by turns, he", x.byTurns(1), 5);
        due("keep", x.keep(1), 2009);
        due("again", x.again(1), 2009);
    }

    /** The row of ACTS is full for hundreds of calls. */
    private static void ringOverAndOver() {
        StepsShared x = Due.dayOf("V9992R0101");
        for (int i = 1; i <= 460; i++) x.walk(1, i % 2);
        due("16", x.about(6), 16);
        due("left", x.about(3), 539);
        for (int i = 15; i >= 0; i--) due("undo to " + i, x.undo(), i);
        due("left then", x.about(3), 555);
        due("no more", x.undo(), LATE);
    }
}
