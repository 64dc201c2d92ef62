import java.util.function.Consumer;
import java.util.function.ToLongFunction;

/**
 * "REFUSALS .. Of several what is told first. What is refused changes nothing." Each refusal of each call by itself,
 * two in one call, and two objects side by side, of which one alone is asked: they must tell the same ever after.
 */
final class RefusalTest {
    private static final int UNKNOWN = -1, BAD = -2, LATE = -3, FULL = -4, NONE = -9;
    private static final int LEAST = Integer.MIN_VALUE, MOST = Integer.MAX_VALUE;
    private static final int[] NO_WALKER = {-1, 2, 3, LEAST, MOST};
    private static final Due DUE = new Due("RefusalTest");

    public static void main(String[] args) {
        write();
        dayAndTold();
        walk();
        carry();
        done();
        loan();
        back();
        undo();
        judge();
        tour();
        plan();
        byTurns();
        ledgerAndEnds();
        chanceAndSpare();
        slots();
        questionsChangeNothing();
        DUE.close();
    }

    // ---- how it is seen

    /** Asks one of two like objects; then both must be alike in all that can be seen of them. */
    private static void refused(String name, Consumer<StepsShared> before, ToLongFunction<StepsShared> call, long want) {
        StepsShared asked = new StepsShared();
        StepsShared other = new StepsShared();
        before.accept(asked);
        before.accept(other);
        DUE.due(name, call.applyAsLong(asked), want);
        String then = all(asked);
        String without = all(other);
        DUE.holds(name + " changes nothing:\n  " + then + "\n  " + without, then.equals(without));
    }

    /** All that an object tells; it is used up by that (with what was before, 512 calls at most). */
    private static String all(StepsShared x) {
        StringBuilder s = new StringBuilder();
        int errands = x.about(1);
        int places = x.about(0);
        for (int e = 0; e < errands; e++) for (int what = 0; what < 3; what++) s.append(x.errand(e, what)).append(' ');
        for (int p = 1; p < places; p++) s.append(x.far(0, p)).append(' ');
        for (int what = 0; what < 4; what++) s.append(x.plan(what)).append(' ');
        s.append(x.live()).append(' ').append(x.byTurns(0)).append(' ').append(x.spare(5, 90)).append(' ');
        s.append(x.fault()).append(" now ");
        standing(x, s);
        s.append("undone ");
        for (int i = x.about(6); i >= 0; i--) {
            s.append(x.undo()).append(' ');
            standing(x, s);
        }
        for (int slot = 0; slot < 2; slot++) {
            s.append("kept ").append(x.again(slot)).append(' ');
            standing(x, s);
            for (int i = x.about(7); i >= 0; i--) s.append(x.back()).append(' ');
        }
        // THE TEXT: what day it becomes, and how long it is
        s.append("text ").append(x.day()).append(' ').append(x.about(9)).append(' ').append(x.about(2)).append(' ');
        standing(x, s);
        return s.append(x.wipe()).toString();
    }

    private static void standing(StepsShared x, StringBuilder s) {
        for (int what = 3; what < 9; what++) s.append(x.about(what)).append(' ');
        s.append("at ").append(x.at(0)).append(x.at(1)).append(" by ");
        int errands = x.about(1);
        for (int e = 0; e < errands; e++) s.append(x.errand(e, 4)).append(' ');
    }

    // ---- what stands before it

    private static void atFirst(StepsShared x) {
    }

    private static void day(StepsShared x, String text) {
        Due.tell(x, text);
        if (x.day() < 0) throw new IllegalStateException("no day: " + text);
    }

    private static Consumer<StepsShared> of(String text) {
        return x -> day(x, text);
    }

    /** Some of all: acts, loans, both slots, errands done by each, another text than the day's. */
    private static void amid(StepsShared x) {
        day(x, "V0505R0103R1204R0309E152E280E391E072E242");
        x.walk(0, 1);
        x.walk(1, 3);
        x.keep(0);
        x.done(0, 0);
        x.loan(9, false);
        x.done(1, 2);
        x.keep(1);
        x.loan(12, true);
        x.undo();
        x.loan(3, true);
        Due.tell(x, "V0123R0104E112");
    }

    /** All full: 80 bytes, 8 loans, 16 acts and more. */
    private static void full(StepsShared x) {
        day(x, "V9996R0101R0201R0301R0401R0501R1201R1301R1401R1501R2301E000E111E222E330E441E552");
        for (int i = 1; i <= 12; i++) x.walk(0, i % 2);
        for (int n = 1; n <= 8; n++) x.loan(10 * n + n, n % 3 == 0);
        x.keep(1);
        x.write(1, 0);
    }

    /** None is LEFT, they stand apart, one loan is owed. */
    private static void spent(StepsShared x) {
        day(x, "V0103R0105R1205E152E292E072");
        x.loan(10, true);
        x.walk(0, 2);
        x.walk(1, 1);
        x.loan(5, false);
        x.keep(0);
    }

    // ---- the day

    private static void write() {
        for (int n : new int[] {0, -1, 9, LEAST, MOST}) {
            refused("write(" + n + ")", RefusalTest::atFirst, x -> x.write(n, 'V'), BAD);
            refused("write(" + n + ") amid", RefusalTest::amid, x -> x.write(n, 'V'), BAD);
            refused("write(" + n + ") where none has room", RefusalTest::full, x -> x.write(n, 'V'), BAD);
        }
        for (int n = 1; n <= 8; n++) {
            int bytes = n;
            refused("write(" + n + ") full", RefusalTest::full, x -> x.write(bytes, 'V'), FULL);
            refused("write(" + n + ") one too many", x -> {
                day(x, "V0002E152");
                for (int i = 9; i < 81 - bytes; i++) x.write(1, 'R');
            }, x -> x.write(bytes, 'V'), FULL);
        }
    }

    private static void dayAndTold() {
        refused("day of nothing", RefusalTest::atFirst, StepsShared::day, LATE);
        for (String text : new String[] {"", "V", "V0127", "V0123R0100", "V9996R0101R0201R030", "V0002E053"}) {
            refused("day of " + text, x -> {
                amid(x);
                Due.tell(x, text);
            }, StepsShared::day, LATE);
            refused("fault of " + text, x -> {
                amid(x);
                Due.tell(x, text);
            }, x -> x.fault() >= 0 ? 1 : 0, 1);
        }
        for (int what : new int[] {-1, 10, LEAST, MOST}) refused("about " + what, RefusalTest::amid, x -> x.about(what), BAD);
        for (int walker : NO_WALKER) refused("at " + walker, RefusalTest::amid, x -> x.at(walker), UNKNOWN);
        for (int place : new int[] {-1, 5, 6, LEAST, MOST}) {
            refused("far from " + place, RefusalTest::amid, x -> x.far(place, 0), UNKNOWN);
            refused("far to " + place, RefusalTest::amid, x -> x.far(0, place), UNKNOWN);
            refused("far from and to " + place, RefusalTest::amid, x -> x.far(place, place), UNKNOWN);
            refused("far from what no way leads to, to " + place, RefusalTest::amid, x -> x.far(4, place), UNKNOWN);
        }
        for (int what : new int[] {-1, 5, LEAST, MOST}) {
            refused("errand what " + what, RefusalTest::amid, x -> x.errand(0, what), BAD);
            refused("no errand, what " + what, RefusalTest::amid, x -> x.errand(5, what), UNKNOWN);
        }
        for (int e : new int[] {-1, 5, 6, 32, LEAST, MOST}) {
            for (int what = 0; what < 5; what++) {
                int asked = what;
                refused("errand " + e, RefusalTest::amid, x -> x.errand(e, asked), UNKNOWN);
            }
        }
    }

    // ---- acts

    private static void walk() {
        for (int walker : NO_WALKER) {
            refused("walk by " + walker, RefusalTest::amid, x -> x.walk(walker, 2), UNKNOWN);
            refused("walk by " + walker + " where it can not be", RefusalTest::amid, x -> x.walk(walker, 4), UNKNOWN);
            refused("walk by " + walker + " to no place", RefusalTest::amid, x -> x.walk(walker, 9), UNKNOWN);
        }
        for (int place : new int[] {-1, 5, 6, LEAST, MOST}) {
            refused("walk to " + place, RefusalTest::amid, x -> x.walk(1, place), UNKNOWN);
        }
        refused("walk to where it is", RefusalTest::amid, x -> x.walk(0, 1), LATE);
        refused("walk to where he is", RefusalTest::amid, x -> x.walk(1, 3), LATE);
        refused("walk where no way leads", RefusalTest::amid, x -> x.walk(0, 4), LATE);
        refused("walk with none left", RefusalTest::spent, x -> x.walk(0, 0), LATE);
        refused("walk with one too few", of("V0042R0105"), x -> x.walk(0, 1), LATE);
        refused("walk to no place with none left", RefusalTest::spent, x -> x.walk(0, 3), UNKNOWN);
        refused("walk at first", RefusalTest::atFirst, x -> x.walk(1, 1), LATE);
        refused("walk to where it is at first", RefusalTest::atFirst, x -> x.walk(1, 0), LATE);
    }

    private static void carry() {
        for (int walker : NO_WALKER) {
            refused("carry by " + walker, RefusalTest::full, x -> x.carry(walker, 1), UNKNOWN);
            refused("carry by " + walker + ", apart", RefusalTest::amid, x -> x.carry(walker, 2), UNKNOWN);
        }
        for (int place : new int[] {-1, 5, 6, LEAST, MOST}) {
            refused("carry to " + place + ", apart", RefusalTest::amid, x -> x.carry(1, place), UNKNOWN);
            refused("carry to " + place, of("V9995R0101"), x -> x.carry(0, place), UNKNOWN);
        }
        refused("carry, elsewhere: he", RefusalTest::amid, x -> x.carry(0, 2), LATE);
        refused("carry, elsewhere: she", RefusalTest::amid, x -> x.carry(1, 0), LATE);
        refused("carry to the other one", RefusalTest::amid, x -> x.carry(0, 3), LATE);
        refused("carry to where they are", of("V9992R0101"), x -> x.carry(0, 0), LATE);
        refused("carry where no way leads", of("V9993R0101"), x -> x.carry(1, 2), LATE);
        refused("carry with one too few", of("V0092R0105"), x -> x.carry(1, 1), LATE);
        refused("carry with steps for one", of("V0052R0105"), x -> x.carry(0, 1), LATE);
        refused("carry with none left", RefusalTest::spent, x -> x.carry(0, 0), LATE);
    }

    private static void done() {
        for (int walker : NO_WALKER) {
            refused("done by " + walker, RefusalTest::amid, x -> x.done(walker, 3), UNKNOWN);
            refused("done by " + walker + " once more", RefusalTest::amid, x -> x.done(walker, 0), UNKNOWN);
            refused("done by " + walker + ", no errand", RefusalTest::amid, x -> x.done(walker, 9), UNKNOWN);
        }
        for (int e : new int[] {-1, 5, 6, 32, LEAST, MOST}) {
            refused("done " + e, RefusalTest::amid, x -> x.done(0, e), UNKNOWN);
        }
        refused("done already", RefusalTest::amid, x -> x.done(0, 0), LATE);
        refused("done, by the other one", RefusalTest::amid, x -> {
            x.walk(1, 1);
            long got = x.done(1, 0);
            x.undo();
            return got;
        }, LATE);
        refused("done elsewhere", RefusalTest::amid, x -> x.done(0, 4), LATE);
        refused("she can not", of("V0002E091"), x -> x.done(0, 0), LATE);
        refused("he can not", of("V0002E090"), x -> x.done(1, 0), LATE);
        refused("can not, and elsewhere", of("V0992R0101E191"), x -> x.done(0, 0), LATE);
    }

    private static void loan() {
        for (int n : new int[] {0, -1, 100, LEAST, MOST}) {
            refused("lent " + n, RefusalTest::amid, x -> x.loan(n, false), BAD);
            refused("borrowed " + n, RefusalTest::amid, x -> x.loan(n, true), BAD);
            refused("lent " + n + " with none left", RefusalTest::spent, x -> x.loan(n, false), BAD);
            refused("lent " + n + " with 8", RefusalTest::full, x -> x.loan(n, false), BAD);
            refused("borrowed " + n + " with 8", RefusalTest::full, x -> x.loan(n, true), BAD);
        }
        refused("lent with none left", RefusalTest::spent, x -> x.loan(1, false), LATE);
        refused("lent with one too few", of("V0982"), x -> x.loan(99, false), LATE);
        refused("the ninth lent", RefusalTest::full, x -> x.loan(1, false), FULL);
        refused("the ninth borrowed", RefusalTest::full, x -> x.loan(99, true), FULL);
        Consumer<StepsShared> eightLent = x -> {
            day(x, "V0092");
            for (int i = 0; i < 8; i++) x.loan(1, false);
        };
        refused("LATE is told before FULL", eightLent, x -> x.loan(2, false), LATE);
        refused("FULL, where one is left to lend", eightLent, x -> x.loan(1, false), FULL);
        refused("FULL, where none need be left", eightLent, x -> x.loan(2, true), FULL);
        refused("BAD is told before both", eightLent, x -> x.loan(100, false), BAD);
    }

    private static void back() {
        refused("back of none", RefusalTest::atFirst, StepsShared::back, LATE);
        refused("back of none with many left", of("V9992"), StepsShared::back, LATE);
        refused("back with none left", RefusalTest::spent, StepsShared::back, LATE);
        refused("back with one too few", x -> {
            day(x, "V0002");
            x.loan(99, true);
            x.loan(90, false);
            x.loan(99, true);
        }, StepsShared::back, LATE);
    }

    private static void undo() {
        refused("undo at first", RefusalTest::atFirst, StepsShared::undo, LATE);
        refused("undo of none", of("V9992R0101E052"), StepsShared::undo, LATE);
        refused("undo gone on", x -> {
            amid(x);
            x.again(1);
        }, StepsShared::undo, LATE);
        refused("undo of the forgotten ones", x -> {
            full(x);
            for (int i = 0; i < 16; i++) x.undo();
        }, StepsShared::undo, LATE);
    }

    private static void judge() {
        for (int walker : NO_WALKER) {
            refused("judge " + walker, RefusalTest::amid, x -> x.judge(walker, 1, 2), UNKNOWN);
            refused("judge " + walker + " n 0", RefusalTest::amid, x -> x.judge(walker, 0, 2), UNKNOWN);
            refused("judge " + walker + " row -1", RefusalTest::amid, x -> x.judge(walker, 1, -1), UNKNOWN);
        }
        for (int n : new int[] {0, -1, 9, LEAST, MOST}) {
            refused("judge n " + n, RefusalTest::amid, x -> x.judge(0, n, 1), BAD);
            refused("judge n " + n + " row 0", RefusalTest::amid, x -> x.judge(0, n, 0), BAD);
            refused("judge n " + n + " row -1", RefusalTest::amid, x -> x.judge(0, n, -1), BAD);
        }
        for (int row : new int[] {-1, 100, 101, 1000000000, LEAST, MOST}) {
            refused("judge row " + row, RefusalTest::amid, x -> x.judge(1, 2, row), BAD);
        }
        refused("judge of what may not be", RefusalTest::amid, x -> x.judge(0, 3, 240), 1);
        refused("judge of what may be", RefusalTest::amid, x -> x.judge(0, 3, 212), NONE);
    }

    // ---- plans

    private static void tour() {
        for (int walker : NO_WALKER) {
            refused("tour of " + walker, RefusalTest::amid, x -> x.tour(walker, 0), UNKNOWN);
            refused("tour of " + walker + " by no set", RefusalTest::amid, x -> x.tour(walker, 32), UNKNOWN);
            refused("tour of " + walker + " by one done", RefusalTest::amid, x -> x.tour(walker, 1), UNKNOWN);
        }
        for (int set : new int[] {-1, 32, 64, LEAST, MOST}) {
            refused("tour by " + set, RefusalTest::amid, x -> x.tour(0, set), BAD);
        }
        refused("tour by one done and no errand", RefusalTest::amid, x -> x.tour(0, 33), BAD);
        refused("tour by one it can not and no errand", RefusalTest::amid, x -> x.tour(1, 34), BAD);
        refused("tour by one done", RefusalTest::amid, x -> x.tour(0, 1), LATE);
        refused("tour by one he can not", RefusalTest::amid, x -> x.tour(1, 2), LATE);
        refused("tour by one she can not", of("V9992E091E092"), x -> x.tour(0, 3), LATE);
        refused("tour by one it can not and no way", of("V9992R0101E191E192"), x -> x.tour(0, 3), LATE);
        refused("LATE is told, not NONE", of("V9993R0101E091E292"), x -> x.tour(0, 3), LATE);
        refused("NONE", of("V9993R0101E091E292"), x -> x.tour(0, 2), NONE);
    }

    private static void plan() {
        for (int what : new int[] {-1, 4, LEAST, MOST}) {
            refused("plan " + what, RefusalTest::amid, x -> x.plan(what), BAD);
            refused("plan " + what + ", and not home", RefusalTest::spent, x -> x.plan(what), BAD);
        }
        refused("plan, not home", RefusalTest::spent, x -> x.plan(0), NONE);
    }

    private static void byTurns() {
        for (int walker : NO_WALKER) {
            refused("by turns " + walker, RefusalTest::amid, x -> x.byTurns(walker), UNKNOWN);
            refused("by turns " + walker + ", six", RefusalTest::full, x -> x.byTurns(walker), UNKNOWN);
            refused("by turns " + walker + ", not home", RefusalTest::spent, x -> x.byTurns(walker), UNKNOWN);
        }
        refused("by turns, six", RefusalTest::full, x -> x.byTurns(0), LATE);
        refused("by turns, six, not home", x -> {
            day(x, "V0052R0105E092E092E092E092E092E092");
            x.walk(0, 1);
        }, x -> x.byTurns(1), LATE);
        refused("by turns, not home", RefusalTest::spent, x -> x.byTurns(1), NONE);
    }

    // ---- guessed

    private static void ledgerAndEnds() {
        for (int place : new int[] {-1, 5, 6, LEAST, MOST}) {
            refused("ledger at " + place, RefusalTest::amid, x -> x.ledger(place, 1, 3), UNKNOWN);
            refused("ends at " + place, RefusalTest::amid, x -> x.ends(place, 1, 3), UNKNOWN);
            refused("ledger at " + place + " of 9", RefusalTest::amid, x -> x.ledger(place, 9, 3), UNKNOWN);
            refused("ends at " + place + " for 1000", RefusalTest::amid, x -> x.ends(place, 1, 1000), UNKNOWN);
        }
        for (int n : new int[] {-1, 9, LEAST, MOST}) {
            refused("ledger of " + n, RefusalTest::amid, x -> x.ledger(0, n, 3), BAD);
            refused("ends of " + n, RefusalTest::amid, x -> x.ends(0, n, 3), BAD);
        }
        for (int t : new int[] {-1, 1000, LEAST, MOST}) {
            refused("ledger for " + t, RefusalTest::amid, x -> x.ledger(0, 1, t), BAD);
            refused("ends for " + t, RefusalTest::amid, x -> x.ends(0, 1, t), BAD);
            refused("ledger of 0 for " + t, RefusalTest::amid, x -> x.ledger(0, 0, t), BAD);
        }
    }

    private static void chanceAndSpare() {
        for (int tenths : new int[] {-1, 11, LEAST, MOST}) {
            refused("chance x " + tenths, RefusalTest::amid, x -> x.chance(tenths, 9, true), BAD);
            refused("chance below x " + tenths, RefusalTest::amid, x -> x.chance(tenths, 9, false), BAD);
            refused("spare x " + tenths, RefusalTest::amid, x -> x.spare(tenths, 9), BAD);
            refused("spare x and y " + tenths, RefusalTest::amid, x -> x.spare(tenths, 101), BAD);
        }
        for (int t : new int[] {-1, 1000, LEAST, MOST}) {
            refused("chance t " + t, RefusalTest::amid, x -> x.chance(5, t, true), BAD);
            refused("chance below t " + t, RefusalTest::amid, x -> x.chance(5, t, false), BAD);
        }
        for (int y : new int[] {-1, 101, LEAST, MOST}) refused("spare y " + y, RefusalTest::amid, x -> x.spare(5, y), BAD);
        refused("spare y 101, and none such", of("V9992E152"), x -> x.spare(10, 101), BAD);
    }

    // ---- slots

    private static void slots() {
        for (int slot : new int[] {-1, 2, 3, LEAST, MOST}) {
            refused("keep " + slot, RefusalTest::amid, x -> x.keep(slot), UNKNOWN);
            refused("again " + slot, RefusalTest::amid, x -> x.again(slot), UNKNOWN);
            refused("again " + slot + " at first", RefusalTest::atFirst, x -> x.again(slot), UNKNOWN);
        }
        refused("again 0 of none", RefusalTest::full, x -> x.again(0), LATE);
        refused("again 1 of none", RefusalTest::spent, x -> x.again(1), LATE);
        refused("again at first", RefusalTest::atFirst, x -> x.again(0), LATE);
    }

    /** "In what follows nothing is changed", and what only tells. */
    private static void questionsChangeNothing() {
        Consumer<StepsShared> before = RefusalTest::amid;
        refused("about", before, x -> x.about(3), 32);
        refused("at", before, x -> x.at(1), 3);
        refused("far", before, x -> x.far(2, 3), 16);
        refused("errand", before, x -> x.errand(2, 4), 1);
        refused("fault", before, StepsShared::fault, NONE);
        refused("tour", before, x -> x.tour(0, 26), 11);
        for (int what = 0; what < 4; what++) {
            int asked = what;
            refused("plan", before, x -> x.plan(asked) >= 0 ? 1 : 0, 1);
        }
        refused("live", before, x -> x.live() >= 0 ? 1 : 0, 1);
        refused("by turns", before, x -> x.byTurns(0) >= 0 ? 1 : 0, 1);
        refused("ledger", before, x -> x.ledger(0, 8, 60) >= 0 ? 1 : 0, 1);
        refused("ends", before, x -> x.ends(0, 8, 60) >= 0 ? 1 : 0, 1);
        refused("chance", before, x -> x.chance(3, 40, true) >= 0 ? 1 : 0, 1);
        refused("spare", before, x -> x.spare(3, 60) >= 0 ? 1 : 0, 1);
    }
}
