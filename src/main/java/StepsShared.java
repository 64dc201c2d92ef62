/** Two share one day's steps. What each call answers is told in ../shared/DOC.md. */
public final class StepsShared {
    public static final int UNKNOWN = -1, BAD = -2, LATE = -3, FULL = -4, NONE = -9;

    private static final int SHE = 0, HE = 1, WALKERS = 2;
    private static final int HOME = 0;
    private static final int LEAST_PLACES = 2, MOST_PLACES = 6, PLACE_PAIRS = 36, PLACE_SETS = 64;
    private static final int MOST_ROADS = 10;
    private static final int MOST_ERRANDS = 6, ERRAND_SETS = 64, MOST_ERRANDS_BY_TURNS = 5;
    private static final int MOST_BYTES = 80;
    private static final int MOST_LOANS = 8, MOST_LOAN = 99;
    private static final int MOST_ACTS = 16;
    private static final int SLOTS = 2;
    private static final int MOST_WALKS = 8;
    private static final int MOST_STEPS = 999;
    private static final int EITHER = 2;
    private static final int OWED_AT_NOUGHT = 10000;

    /** More than Euclid needs for any two longs. */
    private static final int MOST_DIVISIONS = 100;

    /** Costs more than any STEPS that can be LEFT; small enough that sums of some stay an int. */
    private static final int NO_WAY = 1000000;

    private final Text text = new Text();
    private final Standing now = new Standing();
    private final Acts acts = new Acts();
    private final Slots slots = new Slots();
    private final Tours tours = new Tours();
    private final Planner planner = new Planner();
    private final Turns turns = new Turns();
    private final Rows rows = new Rows();
    private final Guess guess = new Guess();
    /** The PLACES of a row that is judged. */
    private final int[] told = new int[MOST_WALKS];

    /** The two change places when THE TEXT becomes THE DAY, so that no call makes a new one. */
    private Day today = new Day();
    private Day draft = new Day();

    public StepsShared() {
    }

    // ---- the day

    public int write(int n, long v) {
        if (n < 1 || n > 8) return BAD;
        if (text.size() + n > MOST_BYTES) return FULL;
        text.append(n, v);
        return text.size();
    }

    public int wipe() {
        int size = text.size();
        text.empty();
        return size;
    }

    public int fault() {
        return Reader.firstFault(text, draft);
    }

    public int day() {
        if (Reader.firstFault(text, draft) != NONE) return LATE;
        Day read = draft;
        draft = today;
        today = read;
        today.measure();
        now.begin(today.steps);
        acts.forget();
        slots.forget();
        return today.places;
    }

    public int about(int what) {
        switch (what) {
            case 0: return today.places;
            case 1: return today.errands;
            case 2: return today.roads;
            case 3: return now.left;
            case 4: return now.doneSet;
            case 5: return today.worthOfSet(now.doneSet);
            case 6: return acts.count;
            case 7: return now.loanCount;
            case 8: return now.owedToThem() + OWED_AT_NOUGHT;
            case 9: return text.size();
            default: return BAD;
        }
    }

    public int at(int walker) {
        return isWalker(walker) ? now.placeOf(walker) : UNKNOWN;
    }

    public int far(int from, int to) {
        if (!today.isPlace(from) || !today.isPlace(to)) return UNKNOWN;
        return toldSteps(today.between(from, to));
    }

    public int errand(int errand, int what) {
        if (!today.isErrand(errand)) return UNKNOWN;
        switch (what) {
            case 0: return today.siteOf(errand);
            case 1: return today.worthOf(errand);
            case 2: return today.doerOf(errand);
            case 3: return now.isDone(errand) ? 1 : 0;
            case 4: return now.isDone(errand) ? now.whoDid(errand) : NONE;
            default: return BAD;
        }
    }

    // ---- acts

    public int walk(int walker, int place) {
        if (!isWalker(walker) || !today.isPlace(place)) return UNKNOWN;
        int cost = walkCost(now.placeOf(walker), place);
        if (cost > now.left) return LATE;
        acts.remember(now);
        now.move(walker, place);
        now.left -= cost;
        return now.left;
    }

    public int carry(int walker, int place) {
        if (!isWalker(walker) || !today.isPlace(place)) return UNKNOWN;
        if (now.placeOf(SHE) != now.placeOf(HE)) return LATE;
        int cost = 2 * walkCost(now.placeOf(walker), place);
        if (cost > now.left) return LATE;
        acts.remember(now);
        now.move(SHE, place);
        now.move(HE, place);
        now.left -= cost;
        return now.left;
    }

    public int done(int walker, int errand) {
        if (!isWalker(walker) || !today.isErrand(errand)) return UNKNOWN;
        if (now.isDone(errand) || !today.canDo(walker, errand)) return LATE;
        if (now.placeOf(walker) != today.siteOf(errand)) return LATE;
        acts.remember(now);
        now.markDone(walker, errand);
        return today.worthOf(errand);
    }

    public int loan(int n, boolean borrowed) {
        if (n < 1 || n > MOST_LOAN) return BAD;
        if (!borrowed && n > now.left) return LATE;
        if (now.loanCount >= MOST_LOANS) return FULL;
        acts.remember(now);
        now.addLoan(borrowed ? -n : n);
        return now.left;
    }

    public int back() {
        if (now.loanCount < 1 || now.left + now.owedForFirstLoan() < 0) return LATE;
        acts.remember(now);
        now.giveFirstLoanBack();
        return now.left;
    }

    public int undo() {
        if (acts.count < 1) return LATE;
        acts.takeLastBack(now);
        return acts.count;
    }

    public int judge(int walker, int n, int row) {
        if (!isWalker(walker)) return UNKNOWN;
        if (n < 1 || n > MOST_WALKS || row < 0) return BAD;
        if (!splitRow(row, n)) return BAD;
        int place = now.placeOf(walker);
        int left = now.left;
        for (int i = 0; i < n; i++) {
            int cost = walkCost(place, told[i]);
            if (cost > left) return i;
            left -= cost;
            place = told[i];
        }
        return NONE;
    }

    // ---- plans

    public int tour(int walker, int errands) {
        if (!isWalker(walker)) return UNKNOWN;
        if (errands < 0 || errands > today.allErrands()) return BAD;
        if ((errands & ~openTo(walker)) != 0) return LATE;
        tours.begin(today, now.placeOf(walker), HOME);
        return toldSteps(tours.by(today.placesOfSet(errands)));
    }

    public int plan(int what) {
        if (what < 0 || what > 3) return BAD;
        planner.offer(openTo(SHE), openTo(HE));
        planner.settle(today, now.placeOf(SHE), now.placeOf(HE), HOME, now.left);
        if (!planner.found) return NONE;
        switch (what) {
            case 0: return planner.worth;
            case 1: return planner.steps;
            case 2: return planner.herSet;
            default: return planner.hisSet;
        }
    }

    public int live() {
        int best = HOME;
        int most = -1;
        planner.offer(today.allFor(SHE), today.allFor(HE));
        for (int place = 0; place < today.places; place++) {
            planner.settle(today, place, place, place, today.steps);
            if (planner.found && planner.worth > most) {
                most = planner.worth;
                best = place;
            }
        }
        return best;
    }

    public int byTurns(int walker) {
        if (!isWalker(walker)) return UNKNOWN;
        int open = today.allErrands() & ~now.doneSet;
        if (Integer.bitCount(open) > MOST_ERRANDS_BY_TURNS) return LATE;
        int her = now.placeOf(SHE);
        int him = now.placeOf(HE);
        turns.begin(today);
        if (turns.homeward(her) + turns.homeward(him) > now.left) return NONE;
        int worths = Turns.play(turns, 0, SHE, open, her, him, now.left);
        return Turns.share(worths, walker);
    }

    // ---- guessed

    public long ledger(int place, int n, int t) {
        if (!today.isPlace(place)) return UNKNOWN;
        if (n < 0 || n > MOST_WALKS || t < 0 || t > MOST_STEPS) return BAD;
        rows.count(today, place, n, t);
        long sum = 0;
        for (int end = 0; end < today.places; end++) sum += rows.endingAt(end, t);
        return sum;
    }

    public int ends(int place, int n, int t) {
        if (!today.isPlace(place)) return UNKNOWN;
        if (n < 0 || n > MOST_WALKS || t < 0 || t > MOST_STEPS) return BAD;
        rows.count(today, place, n, t);
        int bits = 0;
        for (int end = 0; end < today.places; end++) {
            if (rows.endingAt(end, t) > 0) bits |= 1 << end;
        }
        return bits;
    }

    public long chance(int x, int t, boolean upper) {
        if (x < 0 || x > 10 || t < 0 || t > MOST_STEPS) return BAD;
        prepareGuess(x);
        long above = guess.weightWithin(t);
        long below = guess.whole;
        long common = commonDivisor(above, below);
        if (common < 1) return 0;
        return upper ? above / common : below / common;
    }

    public int spare(int x, int y) {
        if (x < 0 || x > 10 || y < 0 || y > 100) return BAD;
        prepareGuess(x);
        return guess.leastSteps(y);
    }

    // ---- slots

    public int keep(int slot) {
        if (slot < 0 || slot >= SLOTS) return UNKNOWN;
        slots.put(slot, now);
        return now.left;
    }

    public int again(int slot) {
        if (slot < 0 || slot >= SLOTS) return UNKNOWN;
        if (!slots.holds(slot)) return LATE;
        slots.fetch(slot, now);
        acts.forget();
        return now.left;
    }

    // ---- what several of the calls above need

    private static boolean isWalker(int walker) {
        return walker >= 0 && walker < WALKERS;
    }

    private static int toldSteps(int steps) {
        return steps >= NO_WAY ? NONE : steps;
    }

    /** Puts n figures of a row into told, the first one first; false: it has more of them. */
    private boolean splitRow(int row, int n) {
        int rest = row;
        for (int i = n - 1; i >= 0; i--) {
            told[i] = rest % 10;
            rest /= 10;
        }
        return rest == 0;
    }

    /** NO_WAY also for a WALK to where one is and to what is no PLACE: none of these may be. */
    private int walkCost(int from, int to) {
        return from == to ? NO_WAY : today.between(from, to);
    }

    private int openTo(int walker) {
        return today.allFor(walker) & ~now.doneSet;
    }

    private void prepareGuess(int x) {
        tours.begin(today, HOME, HOME);
        guess.prepare(today, tours, x);
    }

    private static long commonDivisor(long a, long b) {
        long larger = a;
        long smaller = b;
        for (int i = 0; i < MOST_DIVISIONS && smaller > 0; i++) {
            long rest = larger % smaller;
            larger = smaller;
            smaller = rest;
        }
        return larger;
    }

    /** THE TEXT: bytes, and how many of them there are. */
    private static final class Text {
        private final int[] bytes = new int[MOST_BYTES];
        private int length;

        int size() {
            return length;
        }

        void empty() {
            length = 0;
        }

        void append(int n, long v) {
            for (int i = n - 1; i >= 0 && length < MOST_BYTES; i--) {
                bytes[length] = (int) (v >>> (8 * i)) & 255;
                length++;
            }
        }

        /** 0 where no byte is: it fits nowhere in a DAY, so that a fault there is told at the length. */
        int signAt(int place) {
            return place >= 0 && place < length ? bytes[place] : 0;
        }

        /** The figure at a place; -1: there is another sign. */
        int figureAt(int place) {
            int sign = signAt(place);
            return sign >= '0' && sign <= '9' ? sign - '0' : -1;
        }
    }

    /** Reads THE TEXT into a DAY as far as it can be one. */
    private static final class Reader {
        private static final int HEAD_BYTES = 5, ROAD_BYTES = 5, ERRAND_BYTES = 4;

        static int firstFault(Text text, Day day) {
            int size = text.size();
            int fault = headFault(text);
            if (fault != NONE) return fault;
            int steps = text.figureAt(1) * 100 + text.figureAt(2) * 10 + text.figureAt(3);
            day.begin(text.figureAt(4), steps);
            int length = HEAD_BYTES;
            for (int place = HEAD_BYTES; place < size; place += length) {
                boolean isRoad = text.signAt(place) == 'R';
                length = isRoad ? ROAD_BYTES : ERRAND_BYTES;
                fault = isRoad ? readRoad(text, day, place) : readErrand(text, day, place);
                if (fault != NONE) return fault;
            }
            return NONE;
        }

        private static int headFault(Text text) {
            for (int place = 0; place < HEAD_BYTES; place++) {
                if (!fitsHead(text, place)) return place;
            }
            return NONE;
        }

        private static boolean fitsHead(Text text, int place) {
            if (place == 0) return text.signAt(0) == 'V';
            int figure = text.figureAt(place);
            if (place < 4) return figure >= 0;
            return figure >= LEAST_PLACES && figure <= MOST_PLACES;
        }

        /** The first byte that does not fit, or that is not there; NONE, when the ROAD is in the DAY. */
        private static int readRoad(Text text, Day day, int start) {
            if (!day.hasRoomForRoad()) return start;
            int a = text.figureAt(start + 1);
            if (!day.hasFreePairAt(a)) return start + 1;
            int b = text.figureAt(start + 2);
            if (!day.isFreePair(a, b)) return start + 2;
            int tens = text.figureAt(start + 3);
            if (tens < 0) return start + 3;
            int ones = text.figureAt(start + 4);
            if (ones < 0 || tens + ones == 0) return start + 4;
            day.addRoad(a, b, tens * 10 + ones);
            return NONE;
        }

        private static int readErrand(Text text, Day day, int start) {
            if (text.signAt(start) != 'E' || !day.hasRoomForErrand()) return start;
            int site = text.figureAt(start + 1);
            if (!day.isPlace(site)) return start + 1;
            int worth = text.figureAt(start + 2);
            if (worth < 0) return start + 2;
            int doer = text.figureAt(start + 3);
            if (doer < 0 || doer > EITHER) return start + 3;
            day.addErrand(site, worth, doer);
            return NONE;
        }
    }

    /** PLACES, ROADS, ERRANDS and STEPS, as THE TEXT told them. */
    private static final class Day {
        private int places;
        private int steps;
        private int roads;
        private int errands;
        private final int[] roadLength = new int[PLACE_PAIRS];
        private final int[] least = new int[PLACE_PAIRS];
        private final int[] site = new int[MOST_ERRANDS];
        private final int[] worth = new int[MOST_ERRANDS];
        private final int[] doer = new int[MOST_ERRANDS];

        private Day() {
            begin(LEAST_PLACES, 0);
            measure();
        }

        private void begin(int placesTold, int stepsTold) {
            places = Math.max(LEAST_PLACES, Math.min(MOST_PLACES, placesTold));
            steps = stepsTold;
            roads = 0;
            errands = 0;
            for (int i = 0; i < PLACE_PAIRS; i++) roadLength[i] = 0;
        }

        boolean isPlace(int place) {
            return place >= 0 && place < places;
        }

        boolean isErrand(int errand) {
            return errand >= 0 && errand < errands;
        }

        boolean isFreePair(int a, int b) {
            return isPlace(a) && isPlace(b) && a != b && roadLength[a * MOST_PLACES + b] == 0;
        }

        boolean hasFreePairAt(int a) {
            for (int b = 0; b < places; b++) {
                if (isFreePair(a, b)) return true;
            }
            return false;
        }

        boolean hasRoomForRoad() {
            return roads < MOST_ROADS && roads < places * (places - 1) / 2;
        }

        boolean hasRoomForErrand() {
            return errands < MOST_ERRANDS;
        }

        void addRoad(int a, int b, int length) {
            if (!isFreePair(a, b)) return;
            roadLength[a * MOST_PLACES + b] = length;
            roadLength[b * MOST_PLACES + a] = length;
            roads++;
        }

        void addErrand(int siteTold, int worthTold, int doerTold) {
            if (!hasRoomForErrand()) return;
            site[errands] = siteTold;
            worth[errands] = worthTold;
            doer[errands] = doerTold;
            errands++;
        }

        /** How FAR it is from each PLACE to each, once all ROADS are there. */
        private void measure() {
            for (int i = 0; i < PLACE_PAIRS; i++) least[i] = roadLength[i] > 0 ? roadLength[i] : NO_WAY;
            for (int p = 0; p < MOST_PLACES; p++) least[p * MOST_PLACES + p] = 0;
            for (int over = 0; over < MOST_PLACES; over++) {
                for (int a = 0; a < MOST_PLACES; a++) {
                    for (int b = 0; b < MOST_PLACES; b++) {
                        int way = least[a * MOST_PLACES + over] + least[over * MOST_PLACES + b];
                        if (way < least[a * MOST_PLACES + b]) least[a * MOST_PLACES + b] = way;
                    }
                }
            }
        }

        /** How FAR it is at most between PLACES that have a way. */
        int farthest() {
            int most = 0;
            for (int a = 0; a < places; a++) {
                for (int b = 0; b < places; b++) {
                    if (between(a, b) < NO_WAY) most = Math.max(most, between(a, b));
                }
            }
            return most;
        }

        int between(int a, int b) {
            return isPlace(a) && isPlace(b) ? least[a * MOST_PLACES + b] : NO_WAY;
        }

        int siteOf(int errand) {
            return isErrand(errand) ? site[errand] : HOME;
        }

        int worthOf(int errand) {
            return isErrand(errand) ? worth[errand] : 0;
        }

        int doerOf(int errand) {
            return isErrand(errand) ? doer[errand] : EITHER;
        }

        boolean canDo(int walker, int errand) {
            return isErrand(errand) && (doer[errand] == EITHER || doer[errand] == walker);
        }

        int allErrands() {
            return (1 << errands) - 1;
        }

        int allFor(int walker) {
            int set = 0;
            for (int e = 0; e < errands; e++) {
                if (canDo(walker, e)) set |= 1 << e;
            }
            return set;
        }

        int worthOfSet(int set) {
            int sum = 0;
            for (int e = 0; e < errands; e++) {
                if ((set >> e & 1) == 1) sum += worthOf(e);
            }
            return sum;
        }

        int placesOfSet(int set) {
            int bits = 0;
            for (int e = 0; e < errands; e++) {
                if ((set >> e & 1) == 1) bits |= 1 << siteOf(e);
            }
            return bits;
        }
    }

    /** What ACTS change: where WALKERS are, what is LEFT, DONE, LOANS. */
    private static final class Standing {
        private int her;
        private int him;
        private int left;
        private int doneSet;
        private int doneByHim;
        private int loanCount;
        /** The first one first; more than 0: LENT, less: BORROWED. */
        private final int[] loans = new int[MOST_LOANS];

        void begin(int steps) {
            her = HOME;
            him = HOME;
            left = steps;
            doneSet = 0;
            doneByHim = 0;
            loanCount = 0;
        }

        void copyOf(Standing other) {
            her = other.her;
            him = other.him;
            left = other.left;
            doneSet = other.doneSet;
            doneByHim = other.doneByHim;
            loanCount = other.loanCount;
            for (int i = 0; i < MOST_LOANS; i++) loans[i] = other.loans[i];
        }

        int placeOf(int walker) {
            return walker == SHE ? her : him;
        }

        void move(int walker, int place) {
            if (walker == SHE) her = place;
            else him = place;
        }

        boolean isDone(int errand) {
            return (doneSet >> errand & 1) == 1;
        }

        int whoDid(int errand) {
            return (doneByHim >> errand & 1) == 1 ? HE : SHE;
        }

        void markDone(int walker, int errand) {
            doneSet |= 1 << errand;
            if (walker == HE) doneByHim |= 1 << errand;
        }

        void addLoan(int loan) {
            if (loanCount < 0 || loanCount >= MOST_LOANS) return;
            loans[loanCount] = loan;
            loanCount++;
            left -= loan;
        }

        /** What comes when a LOAN is given back; less than 0: what goes. */
        private static int owedFor(int loan) {
            int size = Math.abs(loan);
            int owed = size + (size + 9) / 10;
            return loan < 0 ? -owed : owed;
        }

        int owedForFirstLoan() {
            return loanCount < 1 ? 0 : owedFor(loans[0]);
        }

        int owedToThem() {
            int sum = 0;
            for (int i = 0; i < loanCount && i < MOST_LOANS; i++) sum += owedFor(loans[i]);
            return sum;
        }

        void giveFirstLoanBack() {
            if (loanCount < 1) return;
            left += owedForFirstLoan();
            for (int i = 1; i < loanCount && i < MOST_LOANS; i++) loans[i - 1] = loans[i];
            loanCount--;
        }
    }

    /** ACTS, each by what stood before it, in a ring: the first one is forgotten when it is full. */
    private static final class Acts {
        /** Keeps a place inside the ring, whose size is a power of two. */
        private static final int RING = MOST_ACTS - 1;

        private final Standing[] before = new Standing[MOST_ACTS];
        private int count;
        private int next;

        private Acts() {
            for (int i = 0; i < MOST_ACTS; i++) before[i] = new Standing();
        }

        void remember(Standing standing) {
            before[next & RING].copyOf(standing);
            next = (next + 1) & RING;
            if (count < MOST_ACTS) count++;
        }

        void takeLastBack(Standing standing) {
            if (count < 1) return;
            next = (next - 1) & RING;
            standing.copyOf(before[next]);
            count--;
        }

        void forget() {
            count = 0;
            next = 0;
        }
    }

    /** What was kept. */
    private static final class Slots {
        private final Standing[] kept = new Standing[SLOTS];
        private final boolean[] full = new boolean[SLOTS];

        private Slots() {
            for (int i = 0; i < SLOTS; i++) kept[i] = new Standing();
        }

        boolean holds(int slot) {
            return slot >= 0 && slot < SLOTS && full[slot];
        }

        void put(int slot, Standing standing) {
            if (slot < 0 || slot >= SLOTS) return;
            kept[slot].copyOf(standing);
            full[slot] = true;
        }

        void fetch(int slot, Standing standing) {
            if (holds(slot)) standing.copyOf(kept[slot]);
        }

        void forget() {
            for (int i = 0; i < SLOTS; i++) full[i] = false;
        }
    }

    /** The least STEPS from one PLACE by a set of PLACES to another one. */
    private static final class Tours {
        private int start;
        /** By the set that was come by and the PLACE that was come to last. */
        private final int[] least = new int[PLACE_SETS * MOST_PLACES];
        private final int[] whole = new int[PLACE_SETS];

        void begin(Day day, int from, int home) {
            start = day.isPlace(from) ? from : HOME;
            for (int i = 0; i < PLACE_SETS * MOST_PLACES; i++) least[i] = NO_WAY;
            least[(1 << start) * MOST_PLACES + start] = 0;
            for (int set = 0; set < 1 << day.places; set++) {
                whole[set] = NO_WAY;
                for (int last = 0; last < day.places; last++) {
                    int steps = least[set * MOST_PLACES + last];
                    if (steps < NO_WAY) goOn(day, set, last, steps);
                    whole[set] = Math.min(whole[set], steps + day.between(last, home));
                }
            }
        }

        private void goOn(Day day, int set, int last, int steps) {
            for (int next = 0; next < day.places; next++) {
                int longer = set | 1 << next;
                if (longer != set) {
                    int i = longer * MOST_PLACES + next;
                    least[i] = Math.min(least[i], steps + day.between(last, next));
                }
            }
        }

        /** NO_WAY: it can not be. */
        int by(int placeSet) {
            int set = placeSet | 1 << start;
            return set >= 0 && set < PLACE_SETS ? whole[set] : NO_WAY;
        }
    }

    /** PLAN: who does what. */
    private static final class Planner {
        private final Tours herTours = new Tours();
        private final Tours hisTours = new Tours();
        private final int[] hisSteps = new int[ERRAND_SETS];
        private final int[] worthOf = new int[ERRAND_SETS];
        private int herErrands;
        private int hisErrands;
        private boolean found;
        private int worth;
        private int steps;
        private int herSet;
        private int hisSet;

        /** Which ERRANDS she and he may take. */
        void offer(int hers, int his) {
            herErrands = hers;
            hisErrands = his;
        }

        void settle(Day day, int her, int him, int home, int left) {
            herTours.begin(day, her, home);
            hisTours.begin(day, him, home);
            found = false;
            int sets = 1 << day.errands;
            for (int set = 0; set < sets; set++) {
                worthOf[set] = day.worthOfSet(set);
                hisSteps[set] = isPartOf(set, hisErrands) ? hisTours.by(day.placesOfSet(set)) : NO_WAY;
            }
            for (int hers = 0; hers < sets; hers++) {
                if (isPartOf(hers, herErrands)) {
                    int herSteps = herTours.by(day.placesOfSet(hers));
                    if (herSteps <= left) tryWith(hers, herSteps, sets, left);
                }
            }
        }

        /** Sets come in rising order and only a better one is taken, so of like ones the least stays. */
        private void tryWith(int hers, int herSteps, int sets, int left) {
            for (int his = 0; his < sets; his++) {
                int both = herSteps + hisSteps[his];
                if ((hers & his) == 0 && both <= left && isBetter(worthOf[hers | his], both)) {
                    found = true;
                    worth = worthOf[hers | his];
                    steps = both;
                    herSet = hers;
                    hisSet = his;
                }
            }
        }

        private boolean isBetter(int otherWorth, int otherSteps) {
            if (!found || otherWorth > worth) return true;
            return otherWorth == worth && otherSteps < steps;
        }

        private static boolean isPartOf(int set, int whole) {
            return (set & ~whole) == 0;
        }
    }

    /** BY TURNS: both WORTHS are told in one number, hers above his. */
    private static final class Turns {
        private static final int HIS_BITS = 8, HIS_MASK = 255;
        /** Where one is that went HOME for good. */
        private static final int GONE = -1;
        /** Each turn does one of 5 ERRANDS or is the last one of a WALKER. */
        private static final int MOST_TURNS = MOST_ERRANDS_BY_TURNS + WALKERS;

        private Day day;

        void begin(Day today) {
            day = today;
        }

        static int share(int worths, int walker) {
            return walker == SHE ? worths >> HIS_BITS : worths & HIS_MASK;
        }

        int homeward(int place) {
            return place == GONE || day == null ? 0 : day.between(place, HOME);
        }

        private static int play(Turns game, int turn, int on, int open, int her, int him, int left) {
            if (turn >= MOST_TURNS || game.day == null) return 0;
            int here = on == SHE ? her : him;
            int other = on == SHE ? him : her;
            int next = other == GONE ? on : 1 - on;
            int best = 0;
            if (other != GONE) {
                int rest = left - game.homeward(here);
                best = on == SHE
                    ? play(game, turn + 1, next, open, GONE, him, rest)
                    : play(game, turn + 1, next, open, her, GONE, rest);
            }
            for (int e = 0; e < MOST_ERRANDS; e++) {
                if ((open >> e & 1) == 1 && game.day.canDo(on, e)) {
                    int site = game.day.siteOf(e);
                    int rest = left - game.day.between(here, site);
                    if (game.homeward(site) + game.homeward(other) <= rest) {
                        int unlike = open & ~(1 << e);
                        int worths = on == SHE
                            ? play(game, turn + 1, next, unlike, site, him, rest)
                            : play(game, turn + 1, next, unlike, her, site, rest);
                        worths += on == SHE ? game.day.worthOf(e) << HIS_BITS : game.day.worthOf(e);
                        if (share(worths, on) > share(best, on)) best = worths;
                    }
                }
            }
            return best;
        }
    }

    /** LEDGER: how many rows of WALKS come to each PLACE by each number of STEPS. */
    private static final class Rows {
        private static final int COSTS = MOST_STEPS + 1;

        private int[] counts = new int[MOST_PLACES * COSTS];
        private int[] longer = new int[MOST_PLACES * COSTS];
        /** No row that was counted costs more; what stands beyond it is from earlier calls. */
        private int reach;

        void count(Day day, int place, int n, int t) {
            reach = 0;
            clear(counts);
            if (day.isPlace(place)) counts[place * COSTS] = 1;
            for (int walks = 0; walks < n && walks < MOST_WALKS; walks++) {
                int before = reach;
                reach = Math.min(Math.min(t, MOST_STEPS), before + day.farthest());
                clear(longer);
                for (int from = 0; from < day.places; from++) goOn(day, from, before);
                int[] old = counts;
                counts = longer;
                longer = old;
            }
        }

        private void goOn(Day day, int from, int before) {
            for (int to = 0; to < day.places; to++) {
                int far = day.between(from, to);
                if (to != from && far < NO_WAY) {
                    for (int cost = 0; cost <= before && cost + far <= reach; cost++) {
                        longer[to * COSTS + cost + far] += counts[from * COSTS + cost];
                    }
                }
            }
        }

        private void clear(int[] row) {
            for (int place = 0; place < MOST_PLACES; place++) {
                for (int cost = 0; cost <= reach; cost++) row[place * COSTS + cost] = 0;
            }
        }

        int endingAt(int place, int t) {
            if (place < 0 || place >= MOST_PLACES || t < 0 || t > reach) return 0;
            return counts[place * COSTS + t];
        }
    }

    /** CHANCE: what each set of ERRANDS costs, and how many of all cases it is. */
    private static final class Guess {
        private final int[] costs = new int[ERRAND_SETS];
        private final int[] weights = new int[ERRAND_SETS];
        private int sets;
        private int whole;

        void prepare(Day day, Tours tours, int x) {
            sets = 1 << day.errands;
            whole = 1;
            for (int e = 0; e < day.errands; e++) whole *= 10;
            for (int set = 0; set < sets; set++) {
                costs[set] = tours.by(day.placesOfSet(set));
                int weight = 1;
                for (int e = 0; e < day.errands; e++) weight *= (set >> e & 1) == 1 ? x : 10 - x;
                weights[set] = weight;
            }
        }

        int weightWithin(int t) {
            int sum = 0;
            for (int set = 0; set < sets; set++) {
                if (costs[set] <= t) sum += weights[set];
            }
            return sum;
        }

        /** CHANCE grows only at what some set costs, so nothing else need be tried. */
        int leastSteps(int hundredths) {
            int best = NONE;
            for (int set = 0; set < sets; set++) {
                int t = costs[set];
                boolean nearer = t <= MOST_STEPS && (best == NONE || t < best);
                if (nearer && 100L * weightWithin(t) >= (long) hundredths * whole) best = t;
            }
            return best;
        }
    }
}
