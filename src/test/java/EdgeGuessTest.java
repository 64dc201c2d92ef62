/**
 * Each sentence of the document that names a boundary case, by a test of its own that quotes it:
 * LEDGER, CHANCE, SPARE. What is refused also stands in RefusalTest.
 */
final class EdgeGuessTest {
    private static final int UNKNOWN = -1, BAD = -2, NONE = -9;
    private static final int LEAST = Integer.MIN_VALUE, MOST = Integer.MAX_VALUE;
    private static final Due DUE = new Due("EdgeGuessTest");

    /** Five roads in a row, each as long as a road may be. */
    private static final String LONGEST_LINE = "R0199R1299R2399R3499R4599";

    private static void due(String call, long got, long want) {
        DUE.due(call, got, want);
    }

    public static void main(String[] args) {
        theGuesses();
        DUE.close();
    }

    // ======== LEDGER, CHANCE, SPARE

    private static void theGuesses() {
        ledgerOfNone();
        ledgerBounds();
        ledgerToAnotherPlace();
        ledgerOfEight();
        chanceBounds();
        chanceInLeastTerms();
        chanceJustSoMany();
        chanceDoneOrNot();
        spareBounds();
        spareJustSoMuch();
        spareNone();
    }

    private static void rows(String name, StepsShared x, int place, int n, int t, long rows, int ends) {
        due(name + " ledger(" + place + ", " + n + ", " + t + ")", x.ledger(place, n, t), rows);
        due(name + " ends(" + place + ", " + n + ", " + t + ")", x.ends(place, n, t), ends);
    }

    /** "n WALKS (0 .. 8)": none cost none, and end where they begin. */
    private static void ledgerOfNone() {
        StepsShared x = Due.dayOf("V0006R0101R1201");
        for (int place = 0; place < 6; place++) {
            rows("none", x, place, 0, 0, 1, 1 << place);
            rows("none for 1", x, place, 0, 1, 0, 0);
            rows("none for 999", x, place, 0, 999, 0, 0);
        }
        rows("one for none", x, 0, 1, 0, 0, 0);
        rows("eight for none", x, 0, 8, 0, 0, 0);
    }

    /** "UNKNOWN: place; BAD: n, t." "(0 .. 8)" "(0 .. 999)". */
    private static void ledgerBounds() {
        StepsShared x = Due.dayOf("V0002R0101");
        rows("n 8", x, 0, 8, 8, 1, 1);
        rows("t 999", x, 0, 8, 999, 0, 0);
        for (int n : new int[] {-1, 9, 10, LEAST, MOST}) rows("n", x, 0, n, 0, BAD, BAD);
        for (int t : new int[] {-1, 1000, 1001, LEAST, MOST}) rows("t", x, 0, 1, t, BAD, BAD);
        for (int place : new int[] {-1, 2, 6, LEAST, MOST}) rows("place", x, place, 1, 1, UNKNOWN, UNKNOWN);
        x = Due.dayOf("V0005R0199R1299R2399R3436");
        rows("999 may be", x, 0, 3, 999, 1, 16);
        rows("998 is another", x, 0, 3, 998, 0, 0);
    }

    /** "each to another PLACE than where it is". */
    private static void ledgerToAnotherPlace() {
        StepsShared x = Due.dayOf("V0004R0101R0201");
        rows("one", x, 0, 1, 1, 2, 6);
        rows("one that is farther", x, 1, 1, 2, 1, 4);
        rows("two", x, 0, 2, 2, 2, 1);
        rows("two round", x, 0, 2, 3, 2, 6);
        rows("apart", x, 3, 1, 1, 0, 0);
        rows("apart, none", x, 3, 0, 0, 1, 8);
    }

    /** n 8: as many as there can be. */
    private static void ledgerOfEight() {
        StepsShared x = Due.dayOf("V0005R0101R0201R0301R0401R1201R1301R1401R2301R2401R3401");
        rows("4 to each", x, 4, 8, 8, 65536, 31);
        rows("4 to each, seven", x, 4, 7, 7, 16384, 31);
        rows("one more step", x, 4, 8, 9, 0, 0);
        x = Due.dayOf("V0002R0199");
        rows("792", x, 1, 8, 792, 1, 2);
        rows("791", x, 1, 8, 791, 0, 0);
        // most of both: 8 WALKS of 99, 84 or 183, 999 together, counted one by one elsewhere
        x = Due.dayOf("V0003R0199R1284");
        rows("999 by 8", x, 0, 8, 999, 22, 2);
        rows("999 by 8, elsewhere", x, 1, 8, 999, rowsFrom(1, 8, 999), 1);
        // rows that cost more than 999 on the way are none of fewer
        StepsShared line = Due.dayOf("V0006" + LONGEST_LINE);
        for (int t = 892; t < 990; t++) rows("between 891 and 990", line, t % 6, 8, t, 0, 0);
        rows("990 by two", line, 0, 2, 990, 1, 1);
        rows("990 by two from 5", line, 5, 2, 990, 1, 32);
        // what was asked before leaves nothing behind
        rows("one for 999 after it", x, 0, 1, 999, 0, 0);
        rows("none for 990 after it", x, 1, 0, 990, 0, 0);
        rows("two for 198 after it", x, 0, 2, 198, 1, 1);
    }

    private static final int[][] THREE = {{0, 99, 183}, {99, 0, 84}, {183, 84, 0}};

    private static long rowsFrom(int from, int n, int t) {
        if (n == 0) return t == 0 ? 1 : 0;
        long sum = 0;
        for (int to = 0; to < 3; to++) if (to != from) sum += rowsFrom(to, n - 1, t - THREE[from][to]);
        return sum;
    }

    private static void chance(String name, StepsShared x, int tenths, int t, long above, long below) {
        due(name + " above (" + tenths + ", " + t + ")", x.chance(tenths, t, true), above);
        due(name + " below (" + tenths + ", " + t + ")", x.chance(tenths, t, false), below);
    }

    /** "x tenths (0 .. 10)" .. "t STEPS (0 .. 999)" .. "BAD: x, t." */
    private static void chanceBounds() {
        StepsShared x = Due.dayOf("V0002R0105E192");
        chance("never comes", x, 0, 0, 1, 1);
        chance("seldom comes", x, 1, 0, 9, 10);
        chance("mostly comes", x, 9, 0, 1, 10);
        chance("always comes", x, 10, 0, 0, 1);
        chance("t 999", x, 10, 999, 1, 1);
        for (int tenths : new int[] {-1, 11, 12, LEAST, MOST}) chance("x", x, tenths, 5, BAD, BAD);
        for (int t : new int[] {-1, 1000, LEAST, MOST}) chance("t", x, 5, t, BAD, BAD);
    }

    /** "FRACTIONS are told above (upper = true), below, in least terms." */
    private static void chanceInLeastTerms() {
        StepsShared x = Due.dayOf("V0002R0105E192");
        long[][] least = {{1, 1}, {9, 10}, {4, 5}, {7, 10}, {3, 5}, {1, 2}, {2, 5}, {3, 10}, {1, 5}, {1, 10}, {0, 1}};
        for (int tenths = 0; tenths <= 10; tenths++) chance("least", x, tenths, 0, least[tenths][0], least[tenths][1]);
        x = Due.dayOf("V0002R0105E192E192E192E192E192E192");
        chance("six, none comes", x, 1, 0, 531441, 1000000);
        chance("six, none comes", x, 9, 0, 1, 1000000);
        chance("six, none comes", x, 5, 9, 1, 64);
        chance("six, any comes", x, 5, 10, 1, 1);
        chance("no errands", Due.dayOf("V0002"), 10, 0, 1, 1);
        chance("no errands", Due.dayOf("V0002"), 0, 0, 1, 1);
    }

    /** "that this costs no more than t STEPS". */
    private static void chanceJustSoMany() {
        StepsShared x = Due.dayOf("V0003R0105R0207E192E292");
        chance("9 of 10", x, 5, 9, 1, 4);
        chance("10 of 10", x, 5, 10, 1, 2);
        chance("13 of 14", x, 5, 13, 1, 2);
        chance("14 of 14", x, 5, 14, 3, 4);
        chance("23 of 24", x, 5, 23, 3, 4);
        chance("24 of 24", x, 5, 24, 1, 1);
        x = Due.dayOf("V0006" + LONGEST_LINE + "E552");
        chance("989 of 990", x, 10, 989, 0, 1);
        chance("990 of 990", x, 10, 990, 1, 1);
        chance("no way", Due.dayOf("V9992E152"), 5, 999, 1, 2);
        chance("no way, always", Due.dayOf("V9992E152"), 10, 999, 0, 1);
        chance("at home", Due.dayOf("V0002E052"), 10, 0, 1, 1);
    }

    /** "each ERRAND (DONE or not) .., one WALKER that can do all starts at HOME": whoever is where, whatever is LEFT. */
    private static void chanceDoneOrNot() {
        StepsShared x = Due.dayOf("V0203R0105R0207E190E291");
        chance("at first", x, 10, 24, 1, 1);
        chance("at first", x, 10, 23, 0, 1);
        due("spare at first", x.spare(10, 100), 24);
        x.walk(0, 1);
        x.done(0, 0);
        x.walk(1, 2);
        x.done(1, 1);
        x.loan(8, false);
        chance("all are done", x, 10, 24, 1, 1);
        chance("all are done", x, 10, 23, 0, 1);
        due("spare then", x.spare(10, 100), 24);
    }

    /** "y hundredths (0 .. 100)" .. "BAD: x, y." */
    private static void spareBounds() {
        StepsShared x = Due.dayOf("V0002R0105E192");
        due("y 0", x.spare(10, 0), 0);
        due("y 1", x.spare(10, 1), 10);
        due("y 100", x.spare(10, 100), 10);
        due("x 0", x.spare(0, 100), 0);
        for (int tenths : new int[] {-1, 11, LEAST, MOST}) due("x " + tenths, x.spare(tenths, 50), BAD);
        for (int y : new int[] {-1, 101, LEAST, MOST}) due("y " + y, x.spare(5, y), BAD);
    }

    /** "the least STEPS by which that is y hundredths .. or more". */
    private static void spareJustSoMuch() {
        StepsShared x = Due.dayOf("V0002R0105E192");
        for (int tenths = 0; tenths <= 10; tenths++) {
            int none = 100 - 10 * tenths;
            due("just " + none, x.spare(tenths, none), 0);
            if (none < 100) due("more than " + none, x.spare(tenths, none + 1), 10);
        }
        x = Due.dayOf("V0002R0105E192E192");
        due("49 of 49", x.spare(3, 49), 0);
        due("50 of 49", x.spare(3, 50), 10);
        x = Due.dayOf("V0002R0105E192E192E192");
        // 729 of 1000: 72.9 hundredths are less than 73
        due("72 of 72.9", x.spare(1, 72), 0);
        due("73 of 72.9", x.spare(1, 73), 10);
        x = Due.dayOf("V0006" + LONGEST_LINE + "E552");
        due("990", x.spare(1, 100), 990);
        due("no errands", Due.dayOf("V0002").spare(10, 100), 0);
    }

    /** "NONE: there is none such (not 999)." */
    private static void spareNone() {
        StepsShared x = Due.dayOf("V9992E152");
        due("50 of 50", x.spare(5, 50), 0);
        due("51 of 50", x.spare(5, 51), NONE);
        due("it never comes", x.spare(0, 100), 0);
        due("it always comes", x.spare(10, 1), NONE);
        due("nought", x.spare(10, 0), 0);
        x = Due.dayOf("V0003R0105E152E252");
        due("49 of 50 with 10", x.spare(5, 50), 10);
        due("51 of 50 with 10", x.spare(5, 51), NONE);
    }
}
