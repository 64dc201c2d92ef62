/**
 * Each sentence of the document that names a boundary case, by a test of its own that quotes it:
 * TOUR, PLAN, WHERE TO LIVE, BY TURNS. What is refused also stands in RefusalTest.
 */
final class EdgePlansTest {
    private static final int BAD = -2, LATE = -3, NONE = -9;
    private static final int LEAST = Integer.MIN_VALUE, MOST = Integer.MAX_VALUE;
    private static final Due DUE = new Due("EdgePlansTest");

    /** Five roads in a row, each as long as a road may be. */
    private static final String LONGEST_LINE = "R0199R1299R2399R3499R4599";

    private static void due(String call, long got, long want) {
        DUE.due(call, got, want);
    }

    public static void main(String[] args) {
        thePlans();
        theTurns();
        DUE.close();
    }

    // ======== TOUR, PLAN, WHERE TO LIVE

    private static void thePlans() {
        tourOfNone();
        tourSets();
        tourNone();
        tourNotHeldToWhatIsLeft();
        planWhat();
        planJustSoMany();
        planNone();
        planLeastSteps();
        planLeastSets();
        planDoneCountForNothing();
        liveLeastOfLike();
        liveJustSoMany();
        liveAllOfTheText();
    }

    /** "by all their PLACES in any order, to HOME": of no ERRANDS the way HOME alone. */
    private static void tourOfNone() {
        StepsShared x = Due.dayOf("V9996" + LONGEST_LINE + "E552");
        due("at home", x.tour(0, 0), 0);
        x.walk(0, 5);
        due("from the end", x.tour(0, 0), 495);
        due("by where she is", x.tour(0, 1), 495);
        due("he goes both ways", x.tour(1, 1), 990);
    }

    /** "BAD: errands (bits of ERRANDS); LATE: one is DONE, or it can not do it." */
    private static void tourSets() {
        StepsShared x = Due.dayOf("V0996" + "R0101R0201R0301R0401R0501" + "E002E112E222E332E442E552");
        due("all six", x.tour(0, 63), 10);
        due("the sixth", x.tour(0, 32), 2);
        for (int set : new int[] {64, 65, 127, 128, -1, -64, LEAST, MOST, 1 << 30}) due("set " + set, x.tour(0, set), BAD);
        x.done(0, 0);
        due("done", x.tour(1, 1), LATE);
        due("one of them done", x.tour(1, 63), LATE);
        due("the others", x.tour(1, 62), 10);
        x = Due.dayOf("V0992E000E001");
        due("she", x.tour(0, 1), 0);
        due("not she", x.tour(0, 2), LATE);
        due("not she both", x.tour(0, 3), LATE);
        due("he", x.tour(1, 2), 0);
        due("not he", x.tour(1, 1), LATE);
        due("no bit", x.tour(1, 4), BAD);
    }

    /** "NONE: it can not be." */
    private static void tourNone() {
        StepsShared x = Due.dayOf("V9993R0101E152E252");
        due("no way to one", x.tour(0, 2), NONE);
        due("nor to both", x.tour(0, 3), NONE);
        due("to the other", x.tour(0, 1), 2);
        due("to none", x.tour(0, 0), 0);
    }

    /** "the least STEPS": also when fewer are LEFT. */
    private static void tourNotHeldToWhatIsLeft() {
        StepsShared x = Due.dayOf("V0006" + LONGEST_LINE + "E552");
        due("990 with none", x.tour(0, 1), 990);
        x = Due.dayOf("V0012R0101E152");
        x.walk(0, 1);
        due("home with none", x.tour(0, 0), 1);
    }

    private static void plan(String name, StepsShared x, int worth, int steps, int hers, int his) {
        due(name + " worth", x.plan(0), worth);
        due(name + " steps", x.plan(1), steps);
        due(name + " hers", x.plan(2), hers);
        due(name + " his", x.plan(3), his);
    }

    /** "WORTH (what = 0) .. his (3) .. BAD." */
    private static void planWhat() {
        StepsShared x = Due.dayOf("V0992R0101E152");
        due("plan 0", x.plan(0), 5);
        due("plan 3", x.plan(3), 1);
        for (int what : new int[] {-1, 4, 5, LEAST, MOST}) due("plan " + what, x.plan(what), BAD);
    }

    /** "so that both TOURS together are no more than is LEFT". */
    private static void planJustSoMany() {
        plan("just 6", Due.dayOf("V0062R0103E150"), 5, 6, 1, 0);
        plan("5 of 6", Due.dayOf("V0052R0103E150"), 0, 0, 0, 0);
        plan("just 10 of both", Due.dayOf("V0103R0103R0202E150E261"), 11, 10, 1, 2);
        plan("9 of both", Due.dayOf("V0093R0103R0202E150E261"), 6, 4, 0, 2);
        plan("990", Due.dayOf("V9906" + LONGEST_LINE + "E552"), 5, 990, 0, 1);
        plan("989", Due.dayOf("V9896" + LONGEST_LINE + "E552"), 0, 0, 0, 0);
        plan("none to be had", Due.dayOf("V9993R0101E292"), 0, 0, 0, 0);
        plan("no steps, but at home", Due.dayOf("V0002R0101E092E192E081"), 17, 0, 0, 5);
        plan("all six", Due.dayOf("V0002E092E092E092E092E092E092"), 54, 0, 0, 63);
        plan("her six", Due.dayOf("V0002E090E090E090E090E090E090"), 54, 0, 63, 0);
        plan("no errands", Due.dayOf("V0002"), 0, 0, 0, 0);
    }

    /** "NONE: both can not come HOME." */
    private static void planNone() {
        StepsShared x = Due.dayOf("V0102R0103E052");
        x.walk(0, 1);
        x.walk(1, 1);
        plan("4 for 6", x, NONE, NONE, NONE, NONE);
        x.loan(2, true);
        plan("6 for 6", x, 5, 6, 0, 1);
        x.loan(1, false);
        plan("5 for 6", x, NONE, NONE, NONE, NONE);
        x = Due.dayOf("V0052R0103E052");
        x.walk(1, 1);
        plan("2 for 3: he alone is out", x, NONE, NONE, NONE, NONE);
        x = Due.dayOf("V0052R0103E052");
        x.walk(0, 1);
        plan("2 for 3: she alone is out", x, NONE, NONE, NONE, NONE);
    }

    /** "of like ones the least STEPS": before her least set and his. */
    private static void planLeastSteps() {
        plan("the nearer", Due.dayOf("V0073R0103R0202E150E250"), 5, 4, 2, 0);
        plan("the nearer for him", Due.dayOf("V0073R0103R0202E151E251"), 5, 4, 0, 2);
        plan("as near", Due.dayOf("V0073R0102R0202E150E250"), 5, 4, 1, 0);
        plan("more worth is before fewer steps", Due.dayOf("V0073R0103R0202E160E250"), 6, 6, 1, 0);
        plan("worth nothing: no steps", Due.dayOf("V9992R0101E102E101"), 0, 0, 0, 0);
        StepsShared x = Due.dayOf("V0993R0103R1203E252");
        x.walk(0, 1);
        plan("she is nearer by", x, 5, 9, 1, 0);
        x = Due.dayOf("V0993R0103R1203E252");
        x.walk(1, 1);
        plan("he is nearer by", x, 5, 9, 0, 1);
    }

    /** "then her least set, then his": as numbers. */
    private static void planLeastSets() {
        plan("hers is none", Due.dayOf("V0992R0101E152E152"), 10, 2, 0, 3);
        plan("0 is less than 1", Due.dayOf("V0022R0101E150E151"), 5, 2, 0, 2);
        plan("hers first, though his is more", Due.dayOf("V0023R0101R0201E150E251"), 5, 2, 0, 2);
        plan("1 is less than 2", Due.dayOf("V0023R0101R0201E150E250"), 5, 2, 1, 0);
        plan("3 is less than 4", Due.dayOf("V0023R0101R0201E130E120E250"), 5, 2, 3, 0);
        plan("his 1 is less than 2", Due.dayOf("V0023R0101R0201E151E251"), 5, 2, 0, 1);
        plan("his 3 is less than 4", Due.dayOf("V0023R0101R0201E131E121E251"), 5, 2, 0, 3);
        plan("worth nothing is left away", Due.dayOf("V0992E002E002"), 0, 0, 0, 0);
        plan("worth nothing by the way is left away", Due.dayOf("V0992R0101E102E152E000"), 5, 2, 0, 2);
    }

    /** "(ERRANDS that are DONE count for nothing.)" */
    private static void planDoneCountForNothing() {
        StepsShared x = Due.dayOf("V0102R0103E152E092");
        plan("both", x, 14, 6, 0, 3);
        x.done(0, 1);
        plan("one is done", x, 5, 6, 0, 1);
        x.walk(0, 1);
        x.done(0, 0);
        plan("both are done", x, 0, 3, 0, 0);
        x.undo();
        plan("one is undone", x, 5, 3, 1, 0);
    }

    /** "the PLACE by which .. PLAN is most; of like ones the least." */
    private static void liveLeastOfLike() {
        due("no errands", Due.dayOf("V9996").live(), 0);
        due("all alike", Due.dayOf("V9993R0101R1201E052E152E252").live(), 0);
        due("1 and 2 alike", Due.dayOf("V0003E152E252").live(), 1);
        due("2 is more", Due.dayOf("V0003E152E262").live(), 2);
        due("the last place", Due.dayOf("V0006E512").live(), 5);
        due("worth nothing", Due.dayOf("V0006E502").live(), 0);
        due("fewer steps are no more", Due.dayOf("V0042R0102E152").live(), 0);
        due("apart, both alike", Due.dayOf("V9994R0101R2301E152E252").live(), 0);
    }

    /** "all STEPS of THE TEXT LEFT": just so many, and one too few. */
    private static void liveJustSoMany() {
        due("just 4", Due.dayOf("V0043R0102R0203E152E012").live(), 0);
        due("3 of 4", Due.dayOf("V0033R0102R0203E152E012").live(), 1);
        due("twice, each for itself", Due.dayOf("V0043R0101R1201E050E251").live(), 0);
        due("not twice", Due.dayOf("V0033R0101R1201E050E251").live(), 0);
        due("one is more", Due.dayOf("V0013R0101R1201E050E261").live(), 2);
        due("as much between", Due.dayOf("V0033R0101R1201E050E261").live(), 1);
        due("990", Due.dayOf("V9906" + LONGEST_LINE + "E592E012").live(), 0);
        due("989", Due.dayOf("V9896" + LONGEST_LINE + "E592E012").live(), 1);
    }

    /** "both there now, all ERRANDS to be done": whatever was done, wherever they are, whatever is LEFT. */
    private static void liveAllOfTheText() {
        StepsShared x = Due.dayOf("V0042R0103E192E011");
        due("at first", x.live(), 1);
        x.walk(0, 1);
        x.done(0, 0);
        due("done, and 1 left", x.live(), 1);
        x.loan(99, true);
        due("more left", x.live(), 1);
        x.keep(0);
        x.again(0);
        due("gone on", x.live(), 1);
        x = Due.dayOf("V0062R0103E192E011");
        x.walk(1, 1);
        x.loan(3, false);
        due("none left", x.live(), 0);
    }

    // ======== BY TURNS

    private static void turns(String name, StepsShared x, int hers, int his) {
        due(name + ": hers", x.byTurns(0), hers);
        due(name + ": his", x.byTurns(1), his);
    }

    private static void theTurns() {
        turnsFiveAtMost();
        turnsJustSoMany();
        turnsNone();
        turnsOfLikeOnesHome();
        turnsOfLikeOnesTheLeast();
        turnsByWhoCan();
        turnsAlone();
    }

    /** "(Asked where 5 ERRANDS at most are not DONE.)" .. "LATE: more than 5 are not DONE." */
    private static void turnsFiveAtMost() {
        turns("none", Due.dayOf("V0002"), 0, 0);
        turns("one", Due.dayOf("V0002E092"), 9, 0);
        turns("five", Due.dayOf("V0002E092E082E072E062E052"), 21, 14);
        StepsShared x = Due.dayOf("V0002E092E082E072E062E052E042");
        turns("six", x, LATE, LATE);
        x.done(1, 2);
        turns("one of six is done", x, 19, 13);
        x.undo();
        turns("six again", x, LATE, LATE);
        for (int e = 0; e < 5; e++) x.done(0, e);
        turns("one is left of six", x, 4, 0);
        x.done(0, 5);
        turns("all are done", x, 0, 0);
        // those that nobody can come to count as well
        turns("six far off", Due.dayOf("V0002E192E182E172E162E152E142"), LATE, LATE);
        turns("five far off", Due.dayOf("V0002E192E182E172E162E152"), 0, 0);
    }

    /** "may be chosen, if then both can still come HOME from where they are .. with what is LEFT". */
    private static void turnsJustSoMany() {
        turns("just 6", Due.dayOf("V0062R0103E152"), 5, 0);
        turns("5 of 6", Due.dayOf("V0052R0103E152"), 0, 0);
        turns("just 12", Due.dayOf("V0122R0103E152E152"), 5, 5);
        turns("11 of 12: she has both", Due.dayOf("V0112R0103E152E142"), 9, 0);
        turns("990", Due.dayOf("V9906" + LONGEST_LINE + "E552"), 5, 0);
        turns("989", Due.dayOf("V9896" + LONGEST_LINE + "E552"), 0, 0);
        turns("no way", Due.dayOf("V9993R0101E252"), 0, 0);
        // the other one's way HOME is held back
        StepsShared x = Due.dayOf("V0122R0103E152");
        x.walk(1, 1);
        turns("9 left, 3 of them his", x, 5, 0);
        x.loan(1, false);
        turns("8 left: he, who is there", x, 0, 5);
    }

    /** "if not even at first both can, nothing is" .. "NONE: both can not come HOME." */
    private static void turnsNone() {
        StepsShared x = Due.dayOf("V0122R0103E052");
        x.walk(0, 1);
        x.walk(1, 1);
        turns("just 6", x, 5, 0);
        x.loan(1, false);
        turns("5 of 6", x, NONE, NONE);
        x.walk(0, 0);
        turns("2 of 3", x, NONE, NONE);
        x.loan(1, true);
        turns("3 of 3", x, 5, 0);
        due("none at all", new StepsShared().byTurns(0), 0);
        x = Due.dayOf("V0032R0103E052");
        x.walk(0, 1);
        turns("none for 3", x, NONE, NONE);
    }

    /** "of like ones it goes HOME": before an ERRAND of no WORTH, seen by what the other one can do then. */
    private static void turnsOfLikeOnesHome() {
        turns("she goes home, he does it", Due.dayOf("V0042R0102E100E191"), 0, 9);
        turns("she has worth", Due.dayOf("V0042R0102E110E191"), 1, 0);
        turns("she would take what he can do", Due.dayOf("V0042R0102E102E191"), 0, 9);
        // he goes HOME when both are alike to him, and she, who is on again, has his steps
        turns("he goes home", Due.dayOf("V0062R0102E101E110E190"), 10, 0);
    }

    /** "then takes the least ERRAND." */
    private static void turnsOfLikeOnesTheLeast() {
        // she has 5 by either; by the first one nothing is left for him
        turns("the far one is first", Due.dayOf("V0063R0103R0202E152E252E291"), 5, 0);
        turns("the near one is first", Due.dayOf("V0083R0103R0202E252E152E291"), 5, 9);
        // he likewise
        turns("his far one is first", Due.dayOf("V0063R0103R0202E151E251"), 0, 5);
        turns("both alike at home", Due.dayOf("V0002E052E052E051"), 5, 10);
    }

    /** "chooses an ERRAND that it can do and that is not DONE". */
    private static void turnsByWhoCan() {
        turns("his alone", Due.dayOf("V0002E091E081"), 0, 17);
        turns("hers alone", Due.dayOf("V0002E090E080"), 17, 0);
        turns("she first", Due.dayOf("V0002E092"), 9, 0);
        StepsShared x = Due.dayOf("V0002E092E052");
        x.done(1, 0);
        turns("what is done is not had again", x, 5, 0);
    }

    /** "goes HOME for good; then the other one, if it is not HOME for good; ..": one goes on alone. */
    private static void turnsAlone() {
        turns("he, all five", Due.dayOf("V0002E091E081E071E061E051"), 0, 35);
        turns("she, all five", Due.dayOf("V0002E090E080E070E060E050"), 35, 0);
        // "one that went HOME for good is there": what she had to hold back is free for him
        StepsShared x = Due.dayOf("V0152R0105E191");
        x.walk(0, 1);
        turns("her way home is paid, none is left for his", x, 0, 0);
        x = Due.dayOf("V0202R0105E191");
        x.walk(0, 1);
        turns("just 10 left for him", x, 0, 9);
        x.loan(1, false);
        turns("9 of 10", x, 0, 0);
        // his way HOME likewise: 3 of these steps are his, also once he is there
        x = Due.dayOf("V0083R0103R0202E050E290");
        x.walk(1, 1);
        turns("5 left: 2 for her when he is home", x, 5, 0);
        x.loan(1, true);
        turns("6 left: 3 for her", x, 5, 0);
        x.loan(1, true);
        turns("7 left: 4 for her", x, 14, 0);
    }
}
