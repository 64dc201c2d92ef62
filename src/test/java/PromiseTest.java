/** Each promise by cases worked out by hand: ordinary inputs, the edges, and wrong inputs. */
final class PromiseTest {
    private static final int UNKNOWN = -1, BAD = -2, LATE = -3, FULL = -4, NONE = -9;
    private static final Due DUE = new Due("PromiseTest");

    /** A line 0 -3- 1 -4- 2 and 0 -9- 3; 4 lies apart. */
    private static final String LINE = "V0505R0103R1204R0309E152E280E391E072";

    private static void due(String call, long got, long want) {
        DUE.due(call, got, want);
    }

    public static void main(String[] args) {
        newObject();
        write();
        wipe();
        faultHead();
        faultRoads();
        faultErrands();
        day();
        dayMakesAllAnew();
        about();
        aboutLoans();
        at();
        far();
        errand();
        walk();
        carry();
        done();
        loan();
        back();
        undo();
        undoForgetsTheFirst();
        judge();
        tour();
        plan();
        planOfLikeOnes();
        live();
        byTurns();
        byTurnsHome();
        ledger();
        ends();
        chance();
        spare();
        keepAndAgain();
        refusedChangesNothing();
        DUE.close();
    }

    // 1
    private static void newObject() {
        StepsShared x = new StepsShared();
        int[] want = {2, 0, 0, 0, 0, 0, 0, 0, 10000, 0};
        for (int what = 0; what < want.length; what++) due("new about " + what, x.about(what), want[what]);
        due("new at 0", x.at(0), 0);
        due("new at 1", x.at(1), 0);
        due("new far", x.far(0, 1), NONE);
        due("new errand", x.errand(0, 0), UNKNOWN);
        due("new undo", x.undo(), LATE);
        due("new again", x.again(0), LATE);
        due("new plan", x.plan(0), 0);
        due("new live", x.live(), 0);
        due("new byTurns", x.byTurns(1), 0);
        due("new keep", x.keep(1), 0);
        due("new again 1", x.again(1), 0);
        due("constants", StepsShared.UNKNOWN * 10000L + StepsShared.BAD * 1000 + StepsShared.LATE * 100
            + StepsShared.FULL * 10 + StepsShared.NONE, -12349);
    }

    // 2
    private static void write() {
        StepsShared x = new StepsShared();
        due("write 0", x.write(0, 65), BAD);
        due("write -1", x.write(-1, 65), BAD);
        due("write 9", x.write(9, 65), BAD);
        due("write least", x.write(Integer.MIN_VALUE, 65), BAD);
        due("write most", x.write(Integer.MAX_VALUE, 65), BAD);
        // the lowest 2 bytes alone count, the higher one of these comes first
        due("write V0", x.write(2, 0x4142_5630L), 2);
        due("write 05", x.write(2, 0x3035L), 4);
        due("fault V005", x.fault(), 4);
        due("write 8", x.write(8, 0x3352_3031_3033_5230L), 12);
        due("fault in the second R", x.fault(), 12);
        due("write 05 behind it", x.write(3, 0x323035L), 15);
        due("day of both", x.day(), 3);
        due("far by both", x.far(1, 2), 8);
        x = new StepsShared();
        due("write 8 whole", x.write(8, 0x5630_3132_3345_3132L), 8);
        due("fault 3 is n, E12 is begun", x.fault(), 8);
        due("write 1 more", x.write(1, 0x32L), 9);
        due("day of it", x.day(), 3);
        due("its steps", x.about(3), 12);
        x = new StepsShared();
        for (int i = 1; i <= 9; i++) due("write 8 times " + i, x.write(8, -1L), 8 * i);
        due("write 7", x.write(7, -1L), 79);
        due("write 2 too many", x.write(2, -1L), FULL);
        due("BAD is told before FULL", x.write(9, -1L), BAD);
        due("nothing came", x.about(9), 79);
        due("write the last", x.write(1, -1L), 80);
        due("write 1 too many", x.write(1, -1L), FULL);
        due("write 8 too many", x.write(8, -1L), FULL);
        due("still 80", x.about(9), 80);
    }

    // 3
    private static void wipe() {
        StepsShared x = new StepsShared();
        due("wipe nothing", x.wipe(), 0);
        Due.tell(x, LINE);
        x.day();
        due("wipe all", x.wipe(), LINE.length());
        due("wipe again", x.wipe(), 0);
        due("the day stands", x.about(0), 5);
        due("text is empty", x.about(9), 0);
        due("fault of nothing", x.fault(), 0);
    }

    private static void fault(String text, int want) {
        StepsShared x = new StepsShared();
        Due.tell(x, text);
        due("fault of " + text, x.fault(), want);
        due("day of " + text, x.day() == LATE ? 1 : 0, want == NONE ? 0 : 1);
    }

    // 4
    private static void faultHead() {
        fault("", 0);
        fault("v", 0);
        fault("X0002", 0);
        fault("V", 1);
        fault("Vx", 1);
        fault("V0", 2);
        fault("V0/", 2);
        fault("V0:", 2);
        fault("V00", 3);
        fault("V00E", 3);
        fault("V000", 4);
        fault("V0001", 4);
        fault("V0007", 4);
        fault("V0000", 4);
        fault("V000R", 4);
        fault("V0002", NONE);
        fault("V9996", NONE);
        fault("V00020", 5);
        fault("V0002V", 5);
        fault("V0002\0", 5);
    }

    private static void faultRoads() {
        fault("V0002R", 6);
        fault("V0002R2", 6);
        fault("V0002RR", 6);
        fault("V0002R0", 7);
        fault("V0002R00", 7);
        fault("V0002R02", 7);
        fault("V0002R01", 8);
        fault("V0002R01R", 8);
        fault("V0002R010", 9);
        fault("V0002R0100", 9);
        fault("V0002R010E", 9);
        fault("V0002R0101", NONE);
        fault("V0002R1099", NONE);
        fault("V0002R0110", NONE);
        // all pairs are there
        fault("V0002R0101R", 10);
        fault("V0003R0101R1201R0201R", 20);
        // the same pair twice, either way round
        fault("V0003R0101R01", 12);
        fault("V0003R0101R10", 12);
        fault("V0003R0101R02", 13);
        // 0 has no other pair left, 1 has one
        fault("V0003R0101R0201R0", 16);
        fault("V0003R0101R0201R1", 17);
        fault("V0003R0101R0201R11", 17);
        fault("V0003R0101R0201R12", 18);
        String ten = "V0006R0101R0201R0301R0401R0501R1201R1301R1401R1501R2301";
        fault(ten, NONE);
        fault(ten + "R", 55);
        fault(ten + "E", 56);
        fault(ten + "E552", NONE);
    }

    private static void faultErrands() {
        fault("V0003E", 6);
        fault("V0003E3", 6);
        fault("V0003E2", 7);
        fault("V0003E2x", 7);
        fault("V0003E29", 8);
        fault("V0003E293", 8);
        fault("V0003E292", NONE);
        fault("V0003E000", NONE);
        fault("V0003E292R0110E001", NONE);
        String six = "V0002E000E000E000E000E000E000";
        fault(six, NONE);
        fault(six + "E", 29);
        fault(six + "R0101", NONE);
        String full = "V0006R0101R0201R0301R0401R0501R1201R1301R1401R1501R2301E000E111E222E330E441E552";
        fault(full, NONE);
        fault(full + "R", 79);
        fault(full + "E", 79);
        fault("V0006R0101R0201R0301R0401R0501R1201R1301R1401R1501E000E111E222E330E441E552", NONE);
        fault("V0006R0101R0201R0301R0401R0501R1201R1301R1401E000E111E222E330E441E552R1501R2302", NONE);
        fault("V0006R0101R0201R0301R0401R0501R1201R1301R1401E000E111E222E330E441E552R1501R2", 76);
    }

    // 5
    private static void day() {
        StepsShared x = new StepsShared();
        due("day of nothing", x.day(), LATE);
        Due.tell(x, "V1234R0312E390");
        due("day", x.day(), 4);
        due("steps", x.about(3), 123);
        due("far", x.far(3, 0), 12);
        Due.tell(x, "V1234R0312E39");
        due("day begun", x.day(), LATE);
        due("the old one stands", x.about(1), 1);
        Due.tell(x, "V0006");
        due("far still", x.far(3, 0), 12);
        due("day 6", x.day(), 6);
        due("far no more", x.far(3, 0), NONE);
        due("errands no more", x.about(1), 0);
    }

    private static void dayMakesAllAnew() {
        StepsShared x = Due.dayOf(LINE);
        x.walk(0, 1);
        x.walk(1, 3);
        x.done(0, 0);
        x.loan(5, true);
        x.keep(0);
        x.keep(1);
        due("day anew", x.day(), 5);
        due("left", x.about(3), 50);
        due("done", x.about(4), 0);
        due("who did", x.errand(0, 4), NONE);
        due("acts", x.about(6), 0);
        due("loans", x.about(7), 0);
        due("at 0", x.at(0), 0);
        due("at 1", x.at(1), 0);
        due("kept 0 is gone", x.again(0), LATE);
        due("kept 1 is gone", x.again(1), LATE);
        x.walk(0, 1);
        x.keep(0);
        x.walk(1, 1);
        x.done(1, 0);
        due("he did", x.errand(0, 4), 1);
        due("day once more", x.day(), 5);
        x.walk(0, 1);
        x.done(0, 0);
        due("this time she did", x.errand(0, 4), 0);
        x.undo();
        x.keep(0);
        Due.tell(x, "V05");
        due("refused day", x.day(), LATE);
        due("at stands", x.at(0), 1);
        due("acts stand", x.about(6), 1);
        due("kept stands", x.again(0), 47);
    }

    // 6
    private static void about() {
        StepsShared x = Due.dayOf(LINE);
        x.walk(0, 1);
        x.done(0, 0);
        x.walk(1, 3);
        x.done(1, 2);
        int[] want = {5, 4, 3, 38, 5, 14, 4, 0, 10000, 36};
        for (int what = 0; what < want.length; what++) due("about " + what, x.about(what), want[what]);
        due("about -1", x.about(-1), BAD);
        due("about 10", x.about(10), BAD);
        due("about least", x.about(Integer.MIN_VALUE), BAD);
    }

    private static void aboutLoans() {
        StepsShared x = Due.dayOf("V9002");
        x.loan(1, false);
        due("lent 1", x.about(8), 10002);
        x.loan(10, false);
        due("lent 10", x.about(8), 10013);
        x.loan(99, false);
        due("lent 99", x.about(8), 10122);
        x.loan(11, true);
        due("borrowed 11", x.about(8), 10109);
        due("4 loans", x.about(7), 4);
        x.back();
        due("the first is back", x.about(8), 10107);
    }

    // 7
    private static void at() {
        StepsShared x = Due.dayOf(LINE);
        x.walk(1, 2);
        due("at her", x.at(0), 0);
        due("at him", x.at(1), 2);
        due("at -1", x.at(-1), UNKNOWN);
        due("at 2", x.at(2), UNKNOWN);
    }

    // 8
    private static void far() {
        StepsShared x = Due.dayOf(LINE);
        due("far to itself", x.far(2, 2), 0);
        due("far to itself apart", x.far(4, 4), 0);
        due("far by a road", x.far(0, 3), 9);
        due("far by two", x.far(2, 0), 7);
        due("far by three", x.far(3, 2), 16);
        due("no way", x.far(1, 4), NONE);
        due("from -1", x.far(-1, 0), UNKNOWN);
        due("from 5", x.far(5, 0), UNKNOWN);
        due("to -1", x.far(0, -1), UNKNOWN);
        due("to 5", x.far(0, 5), UNKNOWN);
        x = Due.dayOf("V0006R0199R1299R2399R3499R4599");
        due("the farthest", x.far(0, 5), 495);
        x = Due.dayOf("V0003R0150R0220R2120");
        due("around is nearer", x.far(0, 1), 40);
    }

    // 9
    private static void errand() {
        StepsShared x = Due.dayOf("V0503R0103R1204E152E280E191");
        int[][] want = {{1, 5, 2}, {2, 8, 0}, {1, 9, 1}};
        for (int e = 0; e < 3; e++) {
            for (int what = 0; what < 3; what++) due("errand " + e + " " + what, x.errand(e, what), want[e][what]);
            due("not done " + e, x.errand(e, 3), 0);
            due("nobody did " + e, x.errand(e, 4), NONE);
        }
        x.walk(0, 1);
        x.done(0, 0);
        x.walk(1, 1);
        x.done(1, 2);
        due("done", x.errand(0, 3), 1);
        due("she did", x.errand(0, 4), 0);
        due("he did", x.errand(2, 4), 1);
        due("errand -1", x.errand(-1, 0), UNKNOWN);
        due("errand 3", x.errand(3, 0), UNKNOWN);
        due("what -1", x.errand(0, -1), BAD);
        due("what 5", x.errand(0, 5), BAD);
        due("UNKNOWN first", x.errand(3, 5), UNKNOWN);
    }

    // 10
    private static void walk() {
        StepsShared x = Due.dayOf("V0104R0103R1204R0309");
        due("who -1", x.walk(-1, 1), UNKNOWN);
        due("who 2", x.walk(2, 1), UNKNOWN);
        due("where -1", x.walk(0, -1), UNKNOWN);
        due("where 4", x.walk(0, 4), UNKNOWN);
        due("is there", x.walk(0, 0), LATE);
        due("walk 2", x.walk(0, 2), 3);
        due("not so many", x.walk(1, 3), LATE);
        due("just as many", x.walk(1, 1), 0);
        due("none left", x.walk(1, 0), LATE);
        due("at her", x.at(0), 2);
        due("at him", x.at(1), 1);
        due("acts", x.about(6), 2);
        x = Due.dayOf("V9993R0101");
        due("no way", x.walk(0, 2), LATE);
    }

    // 11
    private static void carry() {
        StepsShared x = Due.dayOf("V0204R0103R1204R0309");
        due("who", x.carry(2, 1), UNKNOWN);
        due("who -1", x.carry(-1, 1), UNKNOWN);
        due("where", x.carry(0, 4), UNKNOWN);
        due("where -1", x.carry(1, -1), UNKNOWN);
        due("is there", x.carry(0, 0), LATE);
        due("carry", x.carry(1, 2), 6);
        due("both went: she", x.at(0), 2);
        due("both went: he", x.at(1), 2);
        due("not so many", x.carry(0, 1), LATE);
        due("alone it may", x.walk(0, 1), 2);
        due("elsewhere", x.carry(1, 1), LATE);
        due("elsewhere too", x.carry(0, 2), LATE);
        due("acts", x.about(6), 2);
        x = Due.dayOf("V0063R0103");
        due("no way", x.carry(0, 2), LATE);
        due("just as many", x.carry(0, 1), 0);
    }

    // 12
    private static void done() {
        StepsShared x = Due.dayOf("V0502R0103E152E180E191E072E062");
        due("who -1", x.done(-1, 0), UNKNOWN);
        due("who 2", x.done(2, 0), UNKNOWN);
        due("which -1", x.done(0, -1), UNKNOWN);
        due("which 5", x.done(0, 5), UNKNOWN);
        due("elsewhere", x.done(0, 0), LATE);
        due("at home", x.done(1, 3), 7);
        due("done already", x.done(1, 3), LATE);
        due("done already by the other", x.done(0, 3), LATE);
        x.carry(0, 1);
        due("she can not", x.done(0, 2), LATE);
        due("he can not", x.done(1, 1), LATE);
        due("he can", x.done(1, 2), 9);
        due("she can", x.done(0, 1), 8);
        due("either", x.done(0, 0), 5);
        due("no steps", x.about(3), 44);
        due("done ones", x.about(4), 15);
        due("left behind", x.done(0, 4), LATE);
    }

    // 13
    private static void loan() {
        StepsShared x = Due.dayOf("V0202");
        due("n 0", x.loan(0, false), BAD);
        due("n 100", x.loan(100, true), BAD);
        due("n -5", x.loan(-5, true), BAD);
        due("n least", x.loan(Integer.MIN_VALUE, false), BAD);
        due("too many", x.loan(21, false), LATE);
        due("all", x.loan(20, false), 0);
        due("none", x.loan(1, false), LATE);
        due("borrowed", x.loan(99, true), 99);
        for (int i = 3; i <= 8; i++) due("loan " + i, x.loan(1, true), 97 + i);
        due("the ninth", x.loan(1, true), FULL);
        due("the ninth lent", x.loan(1, false), FULL);
        due("BAD before FULL", x.loan(0, true), BAD);
        due("8 loans", x.about(7), 8);
        due("8 acts", x.about(6), 8);
        x = Due.dayOf("V0082");
        for (int i = 0; i < 8; i++) x.loan(1, false);
        due("LATE before FULL", x.loan(1, false), LATE);
        due("FULL then", x.loan(1, true), FULL);
    }

    // 14
    private static void back() {
        StepsShared x = Due.dayOf("V0202R0101");
        due("no loan", x.back(), LATE);
        x.loan(11, false);
        x.loan(10, true);
        due("left", x.loan(19, false), 0);
        due("lent comes with two", x.back(), 13);
        due("2 loans", x.about(7), 2);
        due("borrowed goes with one", x.back(), 2);
        due("the next lent", x.loan(2, false), 0);
        due("the third comes", x.back(), 21);
        due("the fourth comes", x.back(), 24);
        due("no more", x.back(), LATE);
        x = Due.dayOf("V0022R0101");
        x.loan(9, true);
        due("11 are there", x.about(3), 11);
        x.walk(0, 1);
        due("just as many", x.back(), 0);
        x.undo();
        x.walk(0, 0);
        due("one too few", x.back(), LATE);
        due("the loan stands", x.about(7), 1);
    }

    // 15
    private static void undo() {
        StepsShared x = Due.dayOf("V0502R0103E152E180E191");
        due("nothing", x.undo(), LATE);
        x.walk(0, 1);
        x.walk(1, 1);
        x.done(1, 0);
        x.carry(0, 0);
        x.loan(7, false);
        x.loan(8, true);
        x.back();
        due("left", x.about(3), 50 - 12 - 7 + 8 + 8);
        due("undo back", x.undo(), 6);
        due("the loan is again the first", x.about(8), 10000 + 8 - 9);
        due("both loans", x.about(7), 2);
        due("left then", x.about(3), 39);
        x.back();
        due("it comes again", x.about(3), 47);
        x.undo();
        due("undo loan", x.undo(), 5);
        due("one loan", x.about(7), 1);
        due("the lent one stays", x.about(8), 10008);
        due("undo loan", x.undo(), 4);
        due("left 38", x.about(3), 38);
        due("undo carry", x.undo(), 3);
        due("she is back", x.at(0), 1);
        due("he is back", x.at(1), 1);
        due("steps are back", x.about(3), 44);
        due("undo done", x.undo(), 2);
        due("not done", x.about(4), 0);
        due("nobody did", x.errand(0, 4), NONE);
        due("undo his walk", x.undo(), 1);
        due("he at home", x.at(1), 0);
        due("undo hers", x.undo(), 0);
        due("she at home", x.at(0), 0);
        due("all steps", x.about(3), 50);
        due("no more", x.undo(), LATE);
    }

    private static void undoForgetsTheFirst() {
        StepsShared x = Due.dayOf("V0502R0101");
        for (int i = 1; i <= 20; i++) x.walk(0, i % 2);
        due("16 acts", x.about(6), 16);
        for (int i = 15; i >= 0; i--) due("undo to " + i, x.undo(), i);
        due("four are for good", x.about(3), 46);
        due("no more", x.undo(), LATE);
        x.walk(0, 1);
        due("acts again", x.about(6), 1);
        due("undo it", x.undo(), 0);
        due("left", x.about(3), 46);
    }

    // 16
    private static void judge() {
        StepsShared x = Due.dayOf("V0274R0103R1204R0309");
        due("who -1", x.judge(-1, 1, 1), UNKNOWN);
        due("who 2", x.judge(2, 9, -1), UNKNOWN);
        due("n 0", x.judge(0, 0, 0), BAD);
        due("n 9", x.judge(0, 9, 0), BAD);
        due("row -1", x.judge(0, 1, -1), BAD);
        due("row of 2", x.judge(0, 1, 10), BAD);
        due("row of 9", x.judge(0, 8, 100000000), BAD);
        due("row most", x.judge(0, 8, Integer.MAX_VALUE), BAD);
        due("row of 8", x.judge(0, 8, 99999999), 0);
        due("one may", x.judge(0, 1, 1), NONE);
        due("all may", x.judge(0, 2, 12), NONE);
        due("home first", x.judge(0, 2, 1), 0);
        due("noughts ahead", x.judge(0, 3, 12), 0);
        due("no such place", x.judge(0, 3, 124), 2);
        due("just enough", x.judge(0, 3, 303), NONE);
        due("too few", x.judge(0, 4, 3031), 3);
        due("too few, then no such place", x.judge(0, 5, 30308), 3);
        due("stays", x.judge(0, 4, 1221), 2);
        due("nothing changed", x.about(3) * 100 + x.about(6) * 10 + x.at(0), 2700);
        x.walk(1, 2);
        due("from where he is", x.judge(1, 3, 210), 0);
        due("from where he is", x.judge(1, 3, 101), NONE);
        due("home from where he is", x.judge(1, 1, 0), NONE);
        x = Due.dayOf("V9993R0101");
        due("no way", x.judge(0, 2, 12), 1);
        due("8 walks", x.judge(0, 8, 10101010), NONE);
    }

    // 17
    private static void tour() {
        StepsShared x = Due.dayOf(LINE);
        due("who", x.tour(2, 0), UNKNOWN);
        due("set -1", x.tour(0, -1), BAD);
        due("set 16", x.tour(0, 16), BAD);
        due("set most", x.tour(0, Integer.MAX_VALUE), BAD);
        due("she can not", x.tour(0, 4), LATE);
        due("he can not", x.tour(1, 3), LATE);
        due("none", x.tour(0, 0), 0);
        due("hers", x.tour(0, 11), 14);
        due("his", x.tour(1, 5), 24);
        x.walk(1, 1);
        x.done(1, 0);
        due("done", x.tour(0, 1), LATE);
        due("from where he is", x.tour(1, 4), 21);
        due("home", x.tour(1, 8), 3);
        x = Due.dayOf("V0003R0140R0210R1210E192E292");
        due("more than left, around", x.tour(0, 1), 40);
        due("more than left, by both", x.tour(1, 3), 40);
        x = Due.dayOf("V9994R0101R2301E192E292");
        due("can not be", x.tour(0, 2), NONE);
        due("can not be with both", x.tour(0, 3), NONE);
        due("the other can", x.tour(0, 1), 2);
        x = Due.dayOf("V0005R0101R0202R0303R0404R1201R3401E112E212E312E412");
        due("in the best order", x.tour(0, 15), 1 + 1 + 2 + 3 + 1 + 4);
    }

    private static void planIs(String name, StepsShared x, int worth, int steps, int hers, int his) {
        due(name + " worth", x.plan(0), worth);
        due(name + " steps", x.plan(1), steps);
        due(name + " hers", x.plan(2), hers);
        due(name + " his", x.plan(3), his);
    }

    // 18
    private static void plan() {
        StepsShared x = Due.dayOf(LINE);
        planIs("all", x, 29, 32, 0b0011, 0b1100);
        due("plan -1", x.plan(-1), BAD);
        due("plan 4", x.plan(4), BAD);
        x.loan(19, false);
        planIs("31 left", x, 21, 24, 0, 0b1101);
        x.loan(8, false);
        planIs("23 left", x, 20, 14, 0b0011, 0b1000);
        x = Due.dayOf(LINE);
        x.walk(0, 1);
        x.done(0, 0);
        planIs("done counts for nothing", x, 24, 29, 0b0010, 0b1100);
        x.loan(44, false);
        planIs("just home", x, 7, 3, 0, 0b1000);
        x.loan(1, false);
        planIs("not home", x, NONE, NONE, NONE, NONE);
        due("BAD before NONE", x.plan(4), BAD);
    }

    /** Of like WORTH the least STEPS, then her least set, then his. */
    private static void planOfLikeOnes() {
        planIs("either at home", Due.dayOf("V0002E052"), 5, 0, 0, 1);
        planIs("worth nothing", Due.dayOf("V9992R0101E002E102"), 0, 0, 0, 0);
        planIs("the nearer of like ones", Due.dayOf("V0083R0104R0202E152E252"), 5, 4, 0, 2);
        planIs("both", Due.dayOf("V0123R0104R0202E152E252"), 10, 12, 0, 3);
        planIs("the least of hers", Due.dayOf("V0043R0102R0202E150E250"), 5, 4, 1, 0);
        planIs("the least of his", Due.dayOf("V0043R0102R0202E151E251"), 5, 4, 0, 1);
        planIs("his rather than hers", Due.dayOf("V0043R0102R0202E150E252"), 5, 4, 0, 2);
        planIs("by way of", Due.dayOf("V0043R0101R1201E132E252E010"), 9, 4, 4, 3);
    }

    // 19
    private static void live() {
        due("at the errands", Due.dayOf("V0003R0105R1205E292E152").live(), 2);
        due("between", Due.dayOf("V0103R0105R1205E292E152E032").live(), 1);
        due("the least of like ones", Due.dayOf("V9993R0105R1205E252E152E032").live(), 0);
        due("fewer steps are nothing", Due.dayOf("V0603R0105R1205E250E251").live(), 0);
        due("alone", Due.dayOf("V0503R0105E252").live(), 2);
        StepsShared x = Due.dayOf("V0103R0105R1205E292E152E032");
        x.walk(0, 1);
        x.done(0, 1);
        x.loan(5, false);
        due("all steps, all errands", x.live(), 1);
        Due.tell(x, "V999");
        due("of the day", x.live(), 1);
        due("who can", Due.dayOf("V0002R0101E151E140").live(), 1);
        due("hers far, his near", Due.dayOf("V0023R0101R1209E090E251").live(), 0);
        due("his far, hers near", Due.dayOf("V0023R0101R1209E091E250").live(), 0);
    }

    // 20
    private static void byTurns() {
        StepsShared x = Due.dayOf("V0405R0102R0203R0304R0405E192E282E372E462E152");
        due("who -1", x.byTurns(-1), UNKNOWN);
        due("who 2", x.byTurns(2), UNKNOWN);
        due("hers", x.byTurns(0), 21);
        due("his", x.byTurns(1), 14);
        x = Due.dayOf("V0202R0101E092E082E072E062E052E042");
        due("six open", x.byTurns(0), LATE);
        due("UNKNOWN first", x.byTurns(2), UNKNOWN);
        x.done(1, 0);
        due("five open: 8 6 4", x.byTurns(0), 18);
        due("five open: 7 5", x.byTurns(1), 12);
        // one may be left by them both alone when it can not be paid
        x = Due.dayOf("V0042R0101E190E151E010");
        due("hers", x.byTurns(0), 10);
        due("his", x.byTurns(1), 5);
        x = Due.dayOf("V0032R0101E190E151E010");
        due("she takes the steps first", x.byTurns(0), 10);
        due("nothing for him", x.byTurns(1), 0);
    }

    private static void byTurnsHome() {
        StepsShared x = Due.dayOf("V0042R0101E192");
        x.carry(0, 1);
        due("just home", x.byTurns(0), 9);
        due("she took it", x.byTurns(1), 0);
        x.loan(1, false);
        due("not home", x.byTurns(0), NONE);
        due("nor he", x.byTurns(1), NONE);
        due("UNKNOWN before NONE", x.byTurns(3), UNKNOWN);
        // worth nothing: she goes home, and leaves him the steps that she would need
        x = Due.dayOf("V0042R0102E100E191");
        due("nothing", x.byTurns(0), 0);
        due("his", x.byTurns(1), 9);
        // one goes on alone when the other is home for good
        x = Due.dayOf("V9992R0101E101E151E161E171");
        due("all his", x.byTurns(1), 18);
        // what going home costs him is not there for her
        x = Due.dayOf("V0083R0103R0201E191E160E150E220");
        x.walk(1, 1);
        due("5 left: she may not go to 1", x.byTurns(0), 2);
        due("he is there", x.byTurns(1), 9);
        x = Due.dayOf("V0083R0103R0201E190E161E151E221");
        x.walk(0, 1);
        due("she is there", x.byTurns(0), 9);
        due("5 left: he may not go to 1", x.byTurns(1), 2);
        // no way
        x = Due.dayOf("V9993R0101E292");
        due("no way", x.byTurns(0), 0);
        // of like ones the least errand: the far one first would leave him the near one
        x = Due.dayOf("V0063R0101R0202E252E152");
        due("she takes one", x.byTurns(0), 5);
        due("he the other", x.byTurns(1), 5);
        x = Due.dayOf("V0053R0101R0202E252E152E131");
        due("she the first", x.byTurns(0), 5);
        due("no steps for him", x.byTurns(1), 0);
    }

    // 21
    private static void ledger() {
        StepsShared x = Due.dayOf("V0105R0101R1202R0203");
        due("where -1", x.ledger(-1, 0, 0), UNKNOWN);
        due("where 5", x.ledger(5, 9, 0), UNKNOWN);
        due("n -1", x.ledger(0, -1, 0), BAD);
        due("n 9", x.ledger(0, 9, 0), BAD);
        due("t -1", x.ledger(0, 0, -1), BAD);
        due("t 1000", x.ledger(0, 0, 1000), BAD);
        due("none walks", x.ledger(3, 0, 0), 1);
        due("none walks for 1", x.ledger(3, 0, 1), 0);
        due("alone", x.ledger(3, 1, 1), 0);
        due("one for 3", x.ledger(0, 1, 3), 1);
        due("3 for 6, round and round", x.ledger(0, 3, 6), 2);
        due("2 for 3", x.ledger(0, 2, 3), 1);
        due("2 for 2", x.ledger(0, 2, 2), 1);
        due("2 for 5", x.ledger(0, 2, 5), 1);
        due("2 for 6", x.ledger(0, 2, 6), 1);
        due("2 for 4", x.ledger(0, 2, 4), 0);
        x = Due.dayOf("V0006R0101R0201R0301R0401R0501R1202R1302R1402R1502R2302");
        due("8 for 16 of six", x.ledger(1, 8, 999), 0);
        long all = 0;
        for (int t = 0; t <= 999; t++) all += x.ledger(2, 8, t);
        due("all rows of 8", all, 390625);
        x = Due.dayOf("V0006R0199R1299R2399R3499R4599");
        due("8 for 990", x.ledger(0, 6, 990), rowsByHand(6, 10, 0));
        due("8 for 792", x.ledger(0, 8, 792), rowsByHand(8, 8, 0));
        due("more than 999 is not asked", x.ledger(0, 8, 999), 0);
        x.ledger(0, 8, 990);
        due("old counts are gone", x.ledger(0, 1, 990), 0);
        due("old counts are gone too", x.ledger(0, 2, 198), rowsByHand(2, 2, 0));
    }

    /** Rows of n WALKS of far PLACES together on a line of six, from one of them. */
    private static long rowsByHand(int n, int far, int from) {
        if (n == 0) return far == 0 ? 1 : 0;
        long sum = 0;
        for (int to = 0; to < 6; to++) {
            if (to != from && Math.abs(to - from) <= far) sum += rowsByHand(n - 1, far - Math.abs(to - from), to);
        }
        return sum;
    }

    // 22
    private static void ends() {
        StepsShared x = Due.dayOf("V0105R0101R1202R0203");
        due("where -1", x.ends(-1, 0, 0), UNKNOWN);
        due("where 5", x.ends(5, 9, 0), UNKNOWN);
        due("n -1", x.ends(0, -1, 0), BAD);
        due("n 9", x.ends(0, 9, 0), BAD);
        due("t -1", x.ends(0, 0, -1), BAD);
        due("t 1000", x.ends(0, 0, 1000), BAD);
        due("t 999", x.ends(0, 8, 999), 0);
        due("none walks", x.ends(4, 0, 0), 16);
        due("none walks for 1", x.ends(4, 0, 1), 0);
        due("1 for 3", x.ends(0, 1, 3), 4);
        due("2 for 2", x.ends(0, 2, 2), 1);
        due("3 for 5", x.ends(0, 3, 5), 0b100 | 0b010);
        due("8 for 8", x.ends(1, 8, 8), 2);
        due("left is nothing", x.ends(0, 4, 12), 1);
        x = Due.dayOf("V0002R0199E002");
        due("7 for 693", x.ends(0, 7, 693), 2);
        x = Due.dayOf("V0005R0199R1299R2399R3436");
        due("3 for 999", x.ends(0, 3, 999), 16);
        due("3 for 999, one row", x.ledger(0, 3, 999), 1);
    }

    private static void chanceIs(String name, StepsShared x, int tenths, int t, long above, long below) {
        due(name + " above", x.chance(tenths, t, true), above);
        due(name + " below", x.chance(tenths, t, false), below);
    }

    // 23
    private static void chance() {
        StepsShared x = Due.dayOf("V0003R0105R0206E150E251E012");
        due("x -1", x.chance(-1, 0, true), BAD);
        due("x 11", x.chance(11, 0, true), BAD);
        due("t -1", x.chance(5, -1, false), BAD);
        due("t 1000", x.chance(5, 1000, false), BAD);
        chanceIs("5 for 0", x, 5, 0, 1, 4);
        chanceIs("5 for 9", x, 5, 9, 1, 4);
        chanceIs("5 for 10", x, 5, 10, 1, 2);
        chanceIs("5 for 12", x, 5, 12, 3, 4);
        chanceIs("5 for 22", x, 5, 22, 1, 1);
        chanceIs("3 for 10", x, 3, 10, 7, 10);
        chanceIs("3 for 12", x, 3, 12, 91, 100);
        chanceIs("0 for 0", x, 0, 0, 1, 1);
        chanceIs("10 for 21", x, 10, 21, 0, 1);
        chanceIs("10 for 22", x, 10, 22, 1, 1);
        x.walk(0, 1);
        x.done(0, 0);
        chanceIs("done is nothing", x, 3, 10, 7, 10);
        chanceIs("no errands", Due.dayOf("V0002"), 7, 0, 1, 1);
        chanceIs("no way", Due.dayOf("V0002E102E092"), 3, 999, 7, 10);
        StepsShared six = Due.dayOf("V0003E102E102E102E102E102E202");
        chanceIs("never by 6", six, 10, 999, 0, 1);
        chanceIs("none of 6", six, 1, 999, 531441, 1000000);
        chanceIs("over 999", Due.dayOf("V0006R0199R1299R2399R3499R4599E502E502"), 1, 999, 1, 1);
        chanceIs("989", Due.dayOf("V0006R0199R1299R2399R3499R4599E502E502"), 1, 989, 81, 100);
    }

    // 24
    private static void spare() {
        StepsShared x = Due.dayOf("V0003R0105R0206E150E251E012");
        due("x -1", x.spare(-1, 0), BAD);
        due("x 11", x.spare(11, 0), BAD);
        due("y -1", x.spare(5, -1), BAD);
        due("y 101", x.spare(5, 101), BAD);
        due("5 by 0", x.spare(5, 0), 0);
        due("5 by 25", x.spare(5, 25), 0);
        due("5 by 26", x.spare(5, 26), 10);
        due("5 by 50", x.spare(5, 50), 10);
        due("5 by 51", x.spare(5, 51), 12);
        due("5 by 76", x.spare(5, 76), 22);
        due("5 by 100", x.spare(5, 100), 22);
        due("0 by 100", x.spare(0, 100), 0);
        due("10 by 0", x.spare(10, 0), 0);
        due("10 by 1", x.spare(10, 1), 22);
        StepsShared apart = Due.dayOf("V0002E102E092");
        due("by 70", apart.spare(3, 70), 0);
        due("by 71", apart.spare(3, 71), NONE);
        StepsShared line = Due.dayOf("V0006R0199R1299R2399R3499R4599E502E102");
        due("by the longest", line.spare(10, 100), 990);
        due("by the longer one", line.spare(5, 51), 990);
        due("by the shorter one", line.spare(5, 50), 198);
    }

    // 25, 26
    private static void keepAndAgain() {
        StepsShared x = Due.dayOf("V0502R0103E152E180E191");
        due("keep -1", x.keep(-1), UNKNOWN);
        due("keep 2", x.keep(2), UNKNOWN);
        due("again 2", x.again(2), UNKNOWN);
        due("again -1", x.again(-1), UNKNOWN);
        due("none were kept", x.again(1), LATE);
        x.walk(1, 1);
        x.done(1, 0);
        x.loan(20, false);
        due("keep", x.keep(1), 27);
        due("acts stay", x.about(6), 3);
        due("the other slot", x.again(0), LATE);
        x.undo();
        x.undo();
        x.walk(0, 1);
        x.done(0, 0);
        x.loan(5, true);
        due("keep the other", x.keep(0), 49);
        due("again", x.again(1), 27);
        due("acts are gone", x.about(6), 0);
        due("undo", x.undo(), LATE);
        due("she", x.at(0), 0);
        due("he", x.at(1), 1);
        due("done", x.about(4), 1);
        due("by him", x.errand(0, 4), 1);
        due("loans", x.about(8), 10022);
        due("back", x.back(), 49);
        due("the other again", x.again(0), 49);
        due("by her", x.errand(0, 4), 0);
        due("its loan", x.about(8), 9994);
        due("she then", x.at(0), 1);
        due("again once more", x.again(1), 27);
        x.walk(0, 1);
        due("kept over it", x.keep(1), 24);
        due("the new one", x.again(1), 24);
        due("she is there", x.at(0), 1);
    }

    private static String stateOf(StepsShared x) {
        StringBuilder all = new StringBuilder();
        for (int what = 0; what <= 9; what++) all.append(x.about(what)).append(' ');
        for (int e = 0; e < 6; e++) all.append(x.errand(e, 4)).append(' ');
        return all.append(x.at(0)).append(' ').append(x.at(1)).toString();
    }

    private static void refusedChangesNothing() {
        StepsShared x = Due.dayOf(LINE);
        x.walk(0, 1);
        x.done(0, 0);
        x.loan(99, true);
        String before = stateOf(x);
        x.write(0, 1);
        x.walk(0, 1);
        x.walk(0, 4);
        x.walk(2, 1);
        x.carry(0, 2);
        x.done(0, 0);
        x.done(1, 2);
        x.loan(0, true);
        x.back();
        x.again(0);
        x.keep(2);
        x.fault();
        x.judge(0, 2, 21);
        x.tour(0, 2);
        x.plan(0);
        x.live();
        x.byTurns(0);
        x.ledger(0, 3, 20);
        x.ends(0, 3, 20);
        x.chance(5, 10, true);
        x.spare(5, 50);
        // back() was the one that may: 110 of 146 go
        x.undo();
        DUE.holds("nothing changed: " + before + " / " + stateOf(x), before.equals(stateOf(x)));
    }
}
