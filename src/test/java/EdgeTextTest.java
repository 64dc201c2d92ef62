/**
 * Each sentence of the document that names a boundary case, by a test of its own that quotes it:
 * THE TEXT, THE DAY, its ROADS and ERRANDS, FAULT. What is refused also stands in RefusalTest.
 */
final class EdgeTextTest {
    private static final int UNKNOWN = -1, BAD = -2, LATE = -3, FULL = -4, NONE = -9;
    private static final int LEAST = Integer.MIN_VALUE, MOST = Integer.MAX_VALUE;
    private static final Due DUE = new Due("EdgeTextTest");

    private static final String TEN_ROADS = "R0101R0201R0301R0401R0501R1201R1301R1401R1501R2301";
    private static final String SIX_ERRANDS = "E000E111E222E330E441E552";

    private static void due(String call, long got, long want) {
        DUE.due(call, got, want);
    }

    public static void main(String[] args) {
        theText();
        theDay();
        theRoads();
        theErrands();
        theFault();
        DUE.close();
    }

    private static void fault(String text, int want) {
        StepsShared x = new StepsShared();
        Due.tell(x, text);
        due("fault of " + text, x.fault(), want);
        due("day of " + text + " is one", x.day() > 0 ? 1 : 0, want == NONE ? 1 : 0);
    }

    // ======== THE TEXT

    private static void theText() {
        writeOneToEightBytes();
        writeTheLowestHighestFirst();
        writeUpToEighty();
        writeWhatIsTooLongBringsNothing();
        wipeEmptyAndFull();
    }

    /** "n bytes (1 .. 8) of v .. BAD". */
    private static void writeOneToEightBytes() {
        for (int n = 1; n <= 8; n++) due("write " + n, new StepsShared().write(n, 0), n);
        for (int n : new int[] {0, -1, -8, 9, 10, 80, LEAST, MOST}) {
            StepsShared x = new StepsShared();
            due("write " + n, x.write(n, 'V'), BAD);
            due("write " + n + " brings nothing", x.about(9), 0);
        }
    }

    /** "the lowest n, the highest of these first": whatever stands above them. */
    private static void writeTheLowestHighestFirst() {
        long v = 0x5630_3132_3345_3132L; // V0123E12
        for (int n = 1; n <= 8; n++) {
            StepsShared x = new StepsShared();
            Due.tell(x, "V0123E12".substring(0, 8 - n));
            due("the lowest " + n, x.write(n, v), 8);
            due("the 9th", x.write(1, '2'), 9);
            due("day by the lowest " + n, x.day(), 3);
            due("steps by the lowest " + n, x.about(3), 12);
            due("worth by the lowest " + n, x.errand(0, 1), 2);
        }
        for (long above : new long[] {0L, -1L, Long.MIN_VALUE, Long.MAX_VALUE, 0x5656_5656_5656_5656L}) {
            StepsShared x = new StepsShared();
            due("one of " + above, x.write(1, above & ~255L | 'V'), 1);
            due("it is V", x.fault(), 1);
        }
        // a byte above 127 is one byte, and none that fits
        StepsShared x = new StepsShared();
        due("four", x.write(4, 0x5630_30FFL), 4);
        due("the last of them", x.fault(), 3);
    }

    /** "THE TEXT is bytes (80 at most)": the 80th comes, by every n, and no 81st. */
    private static void writeUpToEighty() {
        for (int n = 1; n <= 8; n++) {
            StepsShared x = new StepsShared();
            for (int i = 0; i < 80 - n; i++) x.write(1, 'V');
            due(n + " up to 80", x.write(n, -1L), 80);
            for (int more = 1; more <= 8; more++) due(more + " behind 80", x.write(more, 0), FULL);
            due("80 are there", x.about(9), 80);
            due("80 are wiped", x.wipe(), 80);
            due("there is room", x.write(8, 0), 8);
        }
    }

    /** "FULL: it would be longer than 80 (nothing comes)": not even those that have room. */
    private static void writeWhatIsTooLongBringsNothing() {
        for (int n = 2; n <= 8; n++) {
            StepsShared x = new StepsShared();
            for (int i = 0; i < 81 - n; i++) x.write(1, 'V');
            due(n + " where " + (n - 1) + " have room", x.write(n, 0), FULL);
            due("none came", x.about(9), 81 - n);
            due(n - 1 + " may", x.write(n - 1, 0), 80);
        }
        StepsShared x = Due.dayOf("V0126" + TEN_ROADS + SIX_ERRANDS);
        due("79 bytes", x.about(9), 79);
        due("two more", x.write(2, 'E'), FULL);
        due("the text is as it was", x.fault(), NONE);
        due("one more", x.write(1, 'E'), 80);
        due("that one is there", x.fault(), 79);
    }

    /** "THE TEXT is empty: how long it was." */
    private static void wipeEmptyAndFull() {
        StepsShared x = new StepsShared();
        due("wipe nothing", x.wipe(), 0);
        x.write(1, 'V');
        due("wipe one", x.wipe(), 1);
        due("wipe it again", x.wipe(), 0);
        for (int i = 0; i < 10; i++) x.write(8, 0);
        due("wipe all", x.wipe(), 80);
        due("nothing is there", x.about(9), 0);
        due("its fault", x.fault(), 0);
        // what was there does not come back with what is written then
        Due.tell(x, "V0122E152");
        x.wipe();
        x.write(5, 0x5630_3132_32L);
        due("only what came then", x.fault(), NONE);
        due("day", x.day(), 2);
        due("no errand", x.about(1), 0);
    }

    // ======== THE DAY

    private static void theDay() {
        placesTwoToSix();
        placesEndAtN();
        stepsOfThreeFigures();
        stepsAreAllLeft();
        partsNoneOrMore();
        dayOfAFault();
    }

    /** "PLACES are 0 (HOME) .. n - 1 (n 2 .. 6)". */
    private static void placesTwoToSix() {
        for (int n = 0; n <= 9; n++) fault("V000" + n, n >= 2 && n <= 6 ? NONE : 4);
        for (char c : new char[] {'/', ':', 'V', 'E', 'R', ' ', 0, 0x80 + '2', 255}) fault("V000" + c, 4);
        for (int n = 2; n <= 6; n++) {
            StepsShared x = new StepsShared();
            Due.tell(x, "V000" + n);
            due("day of " + n, x.day(), n);
            due("places " + n, x.about(0), n);
        }
    }

    /** "0 (HOME) .. n - 1": the last PLACE is there, the next one is not. */
    private static void placesEndAtN() {
        for (int n = 2; n <= 6; n++) {
            int last = n - 1;
            String head = "V999" + n;
            fault(head + "R" + last + "001", NONE);
            fault(head + "R0" + last + "01", NONE);
            fault(head + "R" + n, 6);
            fault(head + "R0" + n, 7);
            fault(head + "E" + last + "00", NONE);
            fault(head + "E" + n, 6);
            StepsShared x = Due.dayOf(head + "R0" + last + "01");
            due("far to the last of " + n, x.far(0, last), 1);
            due("far from the last of " + n, x.far(last, 0), 1);
            due("judge to the last of " + n, x.judge(0, 1, last), NONE);
            due("judge beyond the last of " + n, x.judge(0, 1, n), 0);
            due("ledger at the last of " + n, x.ledger(last, 0, 0), 1);
            due("ends at the last of " + n, x.ends(last, 0, 0), 1 << last);
            due("walk to the last of " + n, x.walk(0, last), 998);
            due("walk home", x.walk(0, 0), 997);
            due("carry to the last of " + n, x.carry(0, last), 995);
        }
    }

    /** "STEPS (three figures, 000 .. 999, in hundreds)". */
    private static void stepsOfThreeFigures() {
        int[] some = {0, 1, 9, 10, 90, 99, 100, 109, 900, 990, 998, 999};
        for (int steps : some) {
            StepsShared x = Due.dayOf(String.format("V%03d2", steps));
            due("steps " + steps, x.about(3), steps);
        }
        for (int place = 1; place <= 3; place++) {
            for (char c : new char[] {'/', ':', '-', ' ', 'V', 0, 255}) {
                StringBuilder text = new StringBuilder("V0002");
                text.setCharAt(place, c);
                fault(text.toString(), place);
            }
        }
        // two figures alone: the third is what would be n
        fault("V002", 4);
        // four: the fourth is n
        fault("V00020", 5);
    }

    /** "all STEPS are LEFT": neither fewer nor more of an earlier DAY. */
    private static void stepsAreAllLeft() {
        StepsShared x = Due.dayOf("V9992R0101");
        x.walk(0, 1);
        x.loan(99, true);
        due("day anew", x.day(), 2);
        due("all are left", x.about(3), 999);
        Due.tell(x, "V0002");
        due("day of none", x.day(), 2);
        due("none is left", x.about(3), 0);
    }

    /** "then PARTS, none or more", in any order. */
    private static void partsNoneOrMore() {
        fault("V0002", NONE);
        fault("V0002R0101", NONE);
        fault("V0002E000", NONE);
        fault("V0002E000R0101E111", NONE);
        fault("V0006" + TEN_ROADS + SIX_ERRANDS, NONE);
        fault("V0006" + SIX_ERRANDS + TEN_ROADS, NONE);
        StepsShared x = Due.dayOf("V0006" + SIX_ERRANDS + TEN_ROADS);
        due("all roads", x.about(2), 10);
        due("all errands", x.about(1), 6);
        x = Due.dayOf("V0006");
        due("no roads", x.about(2), 0);
        due("no errands", x.about(1), 0);
        // what is no part
        for (char c : new char[] {'V', 'v', 'r', 'e', 'Q', 'S', 'D', 'F', '0', ' ', 0, 0x80 + 'R'}) fault("V0002" + c, 5);
    }

    /** "LATE: a FAULT": THE DAY stays whole, all that was done in it too. */
    private static void dayOfAFault() {
        StepsShared x = Due.dayOf("V0203R0103R1204E152E291");
        x.walk(0, 1);
        x.done(0, 0);
        x.loan(2, true);
        x.keep(1);
        for (String text : new String[] {"", "V", "V9996R0199E111E", "V9996R0199E111E1121", "V9997", "V9996R0100"}) {
            Due.tell(x, text);
            due("day of " + text, x.day(), LATE);
            due("places after " + text, x.about(0), 3);
            due("far after " + text, x.far(0, 2), 7);
            due("errands after " + text, x.about(1), 2);
            due("errand after " + text, x.errand(1, 0), 2);
            due("left after " + text, x.about(3), 19);
            due("done after " + text, x.about(4), 1);
            due("acts after " + text, x.about(6), 3);
            due("loans after " + text, x.about(7), 1);
            due("where after " + text, x.at(0), 1);
        }
        due("kept", x.again(1), 19);
    }

    // ======== ROADS

    private static void theRoads() {
        roadsUnlike();
        roadsNoTwoTwice();
        roadsOneToNinetyNine();
        roadsTenAtMost();
        roadsWhereNoPairIsLeft();
        farTheLeast();
        farNone();
    }

    /** "a ROAD between PLACES a and b (unlike". */
    private static void roadsUnlike() {
        for (int n = 2; n <= 6; n++) {
            for (int a = 0; a < n; a++) {
                for (int b = 0; b < n; b++) fault("V000" + n + "R" + a + b + "01", a == b ? 7 : NONE);
            }
        }
    }

    /** "no two twice": neither the same way round nor the other. */
    private static void roadsNoTwoTwice() {
        fault("V0006R2301R23", 12);
        fault("V0006R2301R32", 12);
        fault("V0006R3201R23", 12);
        fault("V0006R3201R32", 12);
        fault("V0006R2301E000R2302", 16);
        fault("V0006R2301R2401R4301", NONE);
        fault("V0006R2301R2401R4301R4201", 22);
        StepsShared x = new StepsShared();
        Due.tell(x, "V0006R2301");
        due("asked twice", x.fault(), NONE);
        due("and once more", x.fault(), NONE);
        due("day", x.day(), 6);
        due("day once more", x.day(), 6);
    }

    /** "dd long (01 .. 99)". */
    private static void roadsOneToNinetyNine() {
        fault("V0002R0100", 9);
        for (int length : new int[] {1, 2, 9, 10, 11, 19, 90, 98, 99}) {
            StepsShared x = Due.dayOf(String.format("V0002R01%02d", length));
            due("a road of " + length, x.far(0, 1), length);
        }
        for (char c : new char[] {'/', ':', '-', 'R', 'E', 0, 255}) {
            fault("V0002R01" + c + "1", 8);
            fault("V0002R010" + c, 9);
            fault("V0002R011" + c, 9);
        }
        // 0 as the first figure may still become 01
        fault("V0002R010", 9);
    }

    /** "(10 ROADS at most.)" */
    private static void roadsTenAtMost() {
        for (int n = 0; n <= 10; n++) {
            StepsShared x = Due.dayOf("V0006" + TEN_ROADS.substring(0, 5 * n));
            due(n + " roads", x.about(2), n);
            due("begun behind " + n, x.write(1, 'R'), 6 + 5 * n);
            due("the next behind " + n, x.fault(), n < 10 ? 6 + 5 * n : 55);
        }
        fault("V0006" + TEN_ROADS + "R2401", 55);
        fault("V0006" + TEN_ROADS + "E000R2401", 59);
        // 5 places have 10 pairs: all of them may be there
        String all = "V0005R0101R0201R0301R0401R1201R1301R1401R2301R2401R3401";
        fault(all, NONE);
        fault(all + "R", 55);
    }

    /** "the first byte by which THE TEXT can be no DAY, whatever came behind it": a ROAD more can be none. */
    private static void roadsWhereNoPairIsLeft() {
        fault("V0002R0101", NONE);
        fault("V0002R0101R", 10);
        fault("V0003R0101R0201R1", 17);
        fault("V0003R0101R0201R12", 18);
        fault("V0003R0101R0201R0", 16);
        fault("V0003R0101R0201R2", 17);
        fault("V0003R0101R0201R20", 17);
        fault("V0003R0101R0201R1201R", 20);
        fault("V0004R0101R0201R0301R1201R1301R", 31);
        fault("V0004R0101R0201R0301R1201R1301R1", 31);
        fault("V0004R0101R0201R0301R1201R1301R2", 32);
        fault("V0004R0101R0201R0301R1201R1301R23", 33);
        fault("V0004R0101R0201R0301R1201R1301R2301R", 35);
    }

    /** "FAR from one PLACE to another one: the least of ROADS together". */
    private static void farTheLeast() {
        StepsShared x = Due.dayOf("V0003R0103R1203R0206");
        due("one road as far as two", x.far(0, 2), 6);
        x = Due.dayOf("V0003R0103R1203R0205");
        due("one road is nearer", x.far(2, 0), 5);
        x = Due.dayOf("V0003R0103R1203R0207");
        due("two roads are nearer", x.far(2, 0), 6);
        x = Due.dayOf("V0006R0599R0101R1201R2301R3401R4501");
        due("five roads are nearer than one", x.far(0, 5), 5);
        due("five roads back", x.far(5, 0), 5);
        for (int over = 2; over < 6; over++) {
            x = Due.dayOf(String.format("V0006R0199R0%d01R%d102", over, over));
            due("by way of " + over, x.far(0, 1), 3);
            due("back by way of " + over, x.far(1, 0), 3);
        }
        x = Due.dayOf("V0006R5499R4399R3299R2199R1099");
        due("as far as can be", x.far(0, 5), 495);
        due("as far as can be, back", x.far(5, 0), 495);
        for (int p = 0; p < 6; p++) due("to itself " + p, x.far(p, p), 0);
    }

    /** "NONE: there is no way." */
    private static void farNone() {
        StepsShared x = Due.dayOf("V9996R0101R2301R3401");
        int[] part = {0, 0, 1, 1, 1, 2};
        for (int a = 0; a < 6; a++) {
            for (int b = 0; b < 6; b++) {
                boolean way = part[a] == part[b];
                due("far " + a + " " + b, x.far(a, b), way ? Math.abs(a - b) : NONE);
            }
        }
        due("a new object's two", new StepsShared().far(1, 0), NONE);
    }

    // ======== ERRANDS

    private static void theErrands() {
        errandsSixAtMost();
        errandsWorthNoughtToNine();
        errandsByWhom();
        errandsToldOf();
    }

    /** "ERRANDS 0, 1, .. (6 at most)". */
    private static void errandsSixAtMost() {
        for (int n = 0; n <= 6; n++) {
            StepsShared x = Due.dayOf("V0006" + SIX_ERRANDS.substring(0, 4 * n));
            due(n + " errands", x.about(1), n);
            for (int e = 0; e < n; e++) due("errand " + e + " of " + n, x.errand(e, 0), e);
            due("errand " + n + " of " + n, x.errand(n, 0), UNKNOWN);
            due("done " + n + " of " + n, x.done(0, n), UNKNOWN);
            due("no bit for " + n, x.tour(0, 1 << n), BAD);
            due("begun behind " + n, x.write(1, 'E'), 6 + 4 * n);
            due("the next behind " + n, x.fault(), n < 6 ? 6 + 4 * n : 29);
        }
        fault("V0006" + SIX_ERRANDS + "E000", 29);
        fault("V0006" + SIX_ERRANDS + "R0101E000", 34);
    }

    /** "of WORTH w (0 .. 9)". */
    private static void errandsWorthNoughtToNine() {
        for (int w = 0; w <= 9; w++) {
            StepsShared x = Due.dayOf("V0002E0" + w + "2");
            due("worth " + w, x.errand(0, 1), w);
            due("plan of " + w, x.plan(0), w);
            due("done of " + w, x.done(1, 0), w);
            due("worth done " + w, x.about(5), w);
        }
        for (char c : new char[] {'/', ':', '-', 'E', 0, 255}) fault("V0002E0" + c + "2", 7);
        StepsShared x = Due.dayOf("V0002E092E092E092E092E092E092");
        for (int e = 0; e < 6; e++) x.done(e % 2, e);
        due("all done", x.about(4), 63);
        due("as much worth as can be", x.about(5), 54);
    }

    /** "k 0 she alone can do, 1 he alone, 2 either". */
    private static void errandsByWhom() {
        for (int k = 0; k <= 9; k++) fault("V0002E00" + k, k <= 2 ? NONE : 8);
        for (char c : new char[] {'/', ':', '-', 'E', 0, 255}) fault("V0002E00" + c, 8);
        for (int k = 0; k <= 2; k++) {
            for (int walker = 0; walker < 2; walker++) {
                StepsShared x = Due.dayOf("V0002E05" + k);
                boolean can = k == 2 || k == walker;
                due("who can " + k, x.errand(0, 2), k);
                due("tour " + walker + " " + k, x.tour(walker, 1), can ? 0 : LATE);
                due("done " + walker + " " + k, x.done(walker, 0), can ? 5 : LATE);
                due("is done " + walker + " " + k, x.errand(0, 3), can ? 1 : 0);
                due("who did " + walker + " " + k, x.errand(0, 4), can ? walker : NONE);
            }
        }
    }

    /** "Of an ERRAND its PLACE (what = 0) .. who did it (4; NONE). UNKNOWN; BAD." */
    private static void errandsToldOf() {
        StepsShared x = Due.dayOf("V0002E092");
        due("done 0", x.errand(0, 3), 0);
        due("who did NONE", x.errand(0, 4), NONE);
        for (int what : new int[] {-1, 5, 6, LEAST, MOST}) due("errand what " + what, x.errand(0, what), BAD);
        for (int e : new int[] {-1, 1, 6, 31, 32, 33, LEAST, MOST}) due("errand " + e, x.errand(e, 0), UNKNOWN);
        due("a new object's", new StepsShared().errand(0, 0), UNKNOWN);
    }

    // ======== FAULT

    private static void theFault() {
        faultAtItsLength();
        faultWhateverCameBehind();
        faultOfTheLongest();
        faultReadsOnly();
    }

    /** "its length, if it is only not at its end; NONE: none." */
    private static void faultAtItsLength() {
        String whole = "V1234R0110E151R2399E290";
        for (int length = 0; length <= whole.length(); length++) {
            boolean ended = length == 5 || length == 10 || length == 14 || length == 19 || length == 23;
            fault(whole.substring(0, length), ended ? NONE : length);
        }
    }

    /** "the place of the first byte by which .., whatever came behind it". */
    private static void faultWhateverCameBehind() {
        String whole = "V1234R0110E151R2399E290";
        for (int place = 0; place < whole.length(); place++) {
            for (char c : new char[] {'x', 0, 255}) {
                StringBuilder text = new StringBuilder(whole);
                text.setCharAt(place, c);
                fault(text.toString(), place);
                text.setLength(place + 1);
                fault(text.toString(), place);
                text.append("V0002");
                fault(text.toString(), place);
            }
        }
        fault("VV0002", 1);
        fault("V0012R0010", 7);
        fault("v0002", 0);
        fault("\0V0002", 0);
    }

    /** "(its length set aside)": 79 bytes are the longest DAY, the 80th is one too many. */
    private static void faultOfTheLongest() {
        String longest = "V0006" + TEN_ROADS + SIX_ERRANDS;
        due("the longest", longest.length(), 79);
        fault(longest, NONE);
        for (char c : new char[] {'R', 'E', 'V', '0', 0}) fault(longest + c, 79);
        fault(longest.substring(0, 78), 78);
        fault(longest.substring(0, 78) + "3", 78);
        fault(longest.substring(0, 78) + "31", 78);
        StringBuilder noise = new StringBuilder("V0002");
        while (noise.length() < 80) noise.append('R');
        fault(noise.toString(), 6);
        for (int i = 0; i < 80; i++) noise.setCharAt(i, 'V');
        fault(noise.toString(), 1);
    }

    /** "FAULT; NONE.": THE TEXT and THE DAY stay as they are. */
    private static void faultReadsOnly() {
        StepsShared x = Due.dayOf("V0992R0105E152");
        x.walk(0, 1);
        Due.tell(x, "V5006R0101R0202R0303E091E391");
        due("fault", x.fault(), NONE);
        due("places", x.about(0), 2);
        due("roads", x.about(2), 1);
        due("errands", x.about(1), 1);
        due("far", x.far(0, 1), 5);
        due("worth", x.errand(0, 1), 5);
        due("left", x.about(3), 94);
        due("walk", x.walk(0, 0), 89);
        due("live", x.live(), 0);
        due("plan", x.plan(0), 5);
        x.write(1, 'R');
        due("fault then", x.fault(), 29);
        due("far then", x.far(0, 1), 5);
        due("errand 1 then", x.errand(1, 0), UNKNOWN);
    }
}
