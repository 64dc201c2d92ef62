/** Many runs of calls, each answer held against the oracle's. The runs are the same each time. */
final class OracleTest {
    private static final Due DUE = new Due("OracleTest");
    private static final int RUNS = 260, CALLS = 500, TEXTS = 700;

    private long seed;
    private StepsShared x;
    private Oracle o;
    private String run;

    private OracleTest(long seed) {
        this.seed = seed * 0x9E3779B97F4A7C15L + 1;
        this.run = "run " + seed + ": ";
    }

    public static void main(String[] args) {
        for (int i = 0; i < RUNS; i++) new OracleTest(i).calls();
        for (int i = 0; i < TEXTS; i++) new OracleTest(100000 + i).faults();
        DUE.close();
    }

    /** 0 .. n - 1. */
    private int pick(int n) {
        seed = seed * 6364136223846793005L + 1442695040888963407L;
        return (int) ((seed >>> 33) % n);
    }

    /** Mostly 0 .. n - 1, at times just beside it, or far off. */
    private int about(int n) {
        int kind = pick(30);
        if (kind == 0) return -1;
        if (kind == 1) return n;
        if (kind == 2) return pick(2) == 0 ? Integer.MAX_VALUE : Integer.MIN_VALUE;
        return pick(Math.max(1, n));
    }

    private String randomDay() {
        int places = 2 + pick(5);
        int longest = new int[] {3, 9, 30, 99}[pick(4)];
        int steps = pick(4) == 0 ? pick(1000) : pick(longest * 8);
        StringBuilder text = new StringBuilder(String.format("V%03d%d", Math.min(999, steps), places));
        boolean[][] there = new boolean[6][6];
        int roads = pick(11);
        int errands = pick(5) == 0 ? pick(7) : 3 + pick(4);
        if (pick(3) > 0) {
            for (int p = 1; p < places; p++) addRoad(text, there, pick(p), p, 1 + pick(longest));
            roads -= places - 1;
        }
        while (roads > 0 || errands > 0) {
            if (roads > 0) {
                addRoad(text, there, pick(places), pick(places), 1 + pick(longest));
                roads--;
            }
            if (errands > 0 && pick(2) == 0) {
                text.append('E').append(pick(places)).append(pick(10)).append(pick(4) == 0 ? pick(2) : 2);
                errands--;
            }
        }
        return text.toString();
    }

    private static void addRoad(StringBuilder text, boolean[][] there, int a, int b, int length) {
        if (a == b || there[a][b]) return;
        there[a][b] = true;
        there[b][a] = true;
        text.append(String.format("R%d%d%02d", a, b, length));
    }

    private void write(String text) {
        for (int i = 0; i < text.length(); ) {
            int n = Math.min(text.length() - i, 1 + pick(8));
            long v = pick(3) - 1;
            for (int k = 0; k < n; k++) v = v << 8 | text.charAt(i + k);
            due("write(" + n + ", " + v + ")", x.write(n, v), o.write(n, v));
            i += n;
        }
    }

    private void due(String call, long got, long want) {
        DUE.due(run + call, got, want);
    }

    private void calls() {
        x = new StepsShared();
        o = new Oracle();
        if (pick(10) > 0) {
            write(randomDay());
            due("fault()", x.fault(), o.fault());
            due("day()", x.day(), o.day());
        }
        boolean acting = pick(2) == 0;
        for (int i = 60; i < CALLS; i++) {
            int kind = pick(100);
            if (kind < (acting ? 60 : 30)) act();
            else if (kind < 70) ask();
            else if (kind < 97) guess();
            else text();
        }
    }

    private void act() {
        int walker = pick(20) == 0 ? about(2) : pick(2);
        int place = about(o.about(0));
        int errand = about(o.about(1));
        int n = pick(6) == 0 ? about(100) : 1 + pick(12);
        int row = pick(8) == 0 ? about(100000000) : pick(2) == 0 ? pick(100) : oneThatMay(walker);
        int length = pick(10) == 0 ? about(9) : 1 + pick(8);
        boolean borrowed = pick(2) == 0;
        switch (pick(12)) {
            case 0, 1 -> due("walk(" + walker + ", " + place + ")", x.walk(walker, place), o.walk(walker, place));
            case 2 -> due("carry(" + walker + ", " + place + ")", x.carry(walker, place), o.carry(walker, place));
            case 3 -> due("done(" + walker + ", " + errand + ")", x.done(walker, errand), o.done(walker, errand));
            case 4 -> doWhatCanBeDone();
            case 5, 6 -> due("loan(" + n + ", " + borrowed + ")", x.loan(n, borrowed), o.loan(n, borrowed));
            case 7 -> due("back()", x.back(), o.back());
            case 8 -> due("undo()", x.undo(), o.undo());
            case 9 -> {
                int slot = about(2);
                if (pick(2) == 0) due("keep(" + slot + ")", x.keep(slot), o.keep(slot));
                else due("again(" + slot + ")", x.again(slot), o.again(slot));
            }
            default -> due("judge(" + walker + ", " + length + ", " + row + ")",
                x.judge(walker, length, row), o.judge(walker, length, row));
        }
    }

    private int oneThatMay(int walker) {
        int row = 0;
        for (int i = pick(8); i >= 0; i--) row = row * 10 + pick(o.about(0));
        return row;
    }

    private void doWhatCanBeDone() {
        for (int walker = 0; walker < 2; walker++) {
            for (int e = 0; e < o.about(1); e++) {
                if (o.errand(e, 0) == o.at(walker) && pick(3) == 0) {
                    due("done(" + walker + ", " + e + ")", x.done(walker, e), o.done(walker, e));
                }
            }
        }
    }

    private void ask() {
        int what = about(10);
        int errand = about(o.about(1));
        int errandWhat = about(5);
        int from = about(o.about(0));
        int to = about(o.about(0));
        int walker = about(2);
        due("about(" + what + ")", x.about(what), o.about(what));
        due("errand(" + errand + ", " + errandWhat + ")", x.errand(errand, errandWhat), o.errand(errand, errandWhat));
        due("far(" + from + ", " + to + ")", x.far(from, to), o.far(from, to));
        due("at(" + walker + ")", x.at(walker), o.at(walker));
    }

    private void guess() {
        int walker = pick(20) == 0 ? about(2) : pick(2);
        int place = about(o.about(0));
        int n = pick(10) == 0 ? about(9) : pick(7);
        int t = pick(10) == 0 ? about(1000) : pick(4) == 0 ? pick(1000) : pick(60);
        int tenths = about(11);
        int hundredths = about(101);
        int set = pick(3) == 0 ? about(1 << o.about(1)) : pick(1 << o.about(1)) & pick(1 << o.about(1));
        int what = about(4);
        boolean upper = pick(2) == 0;
        switch (pick(9)) {
            case 0 -> due("tour(" + walker + ", " + set + ")", x.tour(walker, set), o.tour(walker, set));
            case 1, 2 -> due("plan(" + what + ")", x.plan(what), o.plan(what));
            case 3 -> due("live()", x.live(), o.live());
            case 4 -> due("byTurns(" + walker + ")", x.byTurns(walker), o.byTurns(walker));
            case 5 -> due("ledger(" + place + ", " + n + ", " + t + ")", x.ledger(place, n, t), o.ledger(place, n, t));
            case 6 -> due("ends(" + place + ", " + n + ", " + t + ")", x.ends(place, n, t), o.ends(place, n, t));
            case 7 -> due("chance(" + tenths + ", " + t + ", " + upper + ")",
                x.chance(tenths, t, upper), o.chance(tenths, t, upper));
            default -> due("spare(" + tenths + ", " + hundredths + ")",
                x.spare(tenths, hundredths), o.spare(tenths, hundredths));
        }
    }

    private void text() {
        int n = about(9);
        long v = pick(2) == 0 ? 'R' : 'E' + 256L * pick(256);
        switch (pick(4)) {
            case 0 -> due("write(" + n + ", " + v + ")", x.write(n, v), o.write(n, v));
            case 1 -> due("wipe()", x.wipe(), o.wipe());
            case 2 -> {
                due("wipe()", x.wipe(), o.wipe());
                write(randomDay());
            }
            default -> due("day()", x.day(), o.day());
        }
    }

    /** A DAY that is cut, or has a sign put for another, or one too many, or parts twice. */
    private void faults() {
        x = new StepsShared();
        o = new Oracle();
        StringBuilder text = new StringBuilder(randomDay());
        for (int i = pick(4); i > 0; i--) spoil(text);
        write(text.toString());
        run += text + ": ";
        due("fault()", x.fault(), o.fault());
        due("day()", x.day(), o.day());
        for (int what = 0; what < 10; what++) due("about " + what, x.about(what), o.about(what));
    }

    private void spoil(StringBuilder text) {
        String signs = "0123456789VRE 0101\0" + (char) 255;
        int i = pick(text.length() + 1);
        switch (pick(5)) {
            case 0 -> text.setLength(Math.max(1, i));
            case 1 -> text.insert(i, signs.charAt(pick(signs.length())));
            case 2 -> text.append("R").append(pick(6)).append(pick(6)).append("05");
            case 3 -> text.append("E").append(pick(6)).append(pick(10)).append(pick(4));
            default -> {
                if (i < text.length()) text.setCharAt(i, signs.charAt(pick(10)));
            }
        }
    }
}
