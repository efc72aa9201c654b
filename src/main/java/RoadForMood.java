/**
 * A park that is a ring of cells, with a road for each mood, and walkers whose mood changes as they go.
 * What every call answers is told in README.md, and promise by promise in ../shared/DOC.md.
 */
public final class RoadForMood {
    public static final int NONE = -1, BAD = -2, STATE = -3, FULL = -4;
    public static final long NO = Long.MIN_VALUE;

    private static final int NEVER = -5, OTHER_KIND = -6, NOTHING = -999999, FAULT = -10;
    private static final int CELLS = 16, MOODS = 4, KINDS = 7, ALL_CELLS = 65535;
    private static final int MOST_WALKERS = 6, MOST_PARKS = 5, MOST_V = 9, MOST_SIGN = 127;
    private static final int MOST_STEP = 9999, MOST_MOVED = 9999, MOST_AHEAD = 60, MOST_SEEN_AHEAD = 20;
    private static final int MOST_POSTS = 3, MOST_SETS = 560, NO_LIMIT = 2147483647;
    private static final int PLAN_STEP = 0, PLAN_AWAY = 1, PLAN_BACK = 2, PLAN_KEEPER = 3;

    private final Rows ran;
    private final Walker[] kinds;
    private final Park fresh;
    private final Whole now;
    private final Whole kept;
    private final Ring trial;
    private boolean isKept;
    private int editions;

    public RoadForMood() {
        Rows bodies = new Rows(20);
        Walker[] all = new Walker[KINDS];
        all[0] = new Walker(bodies);
        all[1] = new Lover(bodies);
        all[2] = new Stout(bodies);
        all[3] = new Drunk(bodies);
        all[4] = new Shy(bodies);
        all[5] = new Proud(bodies);
        all[6] = new Told(bodies);
        int[] sums = new int[Park.SUMS];
        Park held = new Park(sums);
        ran = bodies;
        kinds = all;
        fresh = new Park(sums);
        now = new Whole(held, all);
        kept = new Whole(new Park(sums), all);
        trial = new Ring(held, all, NO_LIMIT);
    }

    // ---- parks, roads, walkers

    public int feed(int sign) {
        if (sign < 0 || sign > MOST_SIGN) {
            return BAD;
        }
        if (now.tape.isFull()) {
            return FULL;
        }
        now.tape.add(sign, 0, 0);
        return now.tape.size;
    }

    public int park() {
        if (now.parks >= MOST_PARKS) {
            return FULL;
        }
        boolean isPark = fresh.read(now.tape);
        now.tape.clear();
        if (!isPark) {
            return FAULT - fresh.place;
        }
        editions++;
        fresh.edition = editions;
        now.park.copyFrom(fresh);
        now.parks++;
        return now.parks - 1;
    }

    public int road(int mood, int cells) {
        if (!isBelow(mood, MOODS)) {
            return NONE;
        }
        if (cells < 0 || cells > ALL_CELLS) {
            return BAD;
        }
        int was = now.ring.road[mood];
        now.ring.road[mood] = cells;
        return was;
    }

    public int keep(int cells) {
        if (cells < 0 || cells > ALL_CELLS) {
            return BAD;
        }
        int was = now.ring.keepers;
        now.ring.keepers = cells;
        return was;
    }

    public int walker(int kind, int v, int cell, int mood) {
        if (!isBelow(kind, KINDS) || !isBelow(cell, CELLS) || !isBelow(mood, MOODS)) {
            return NONE;
        }
        if (v < 0 || v > MOST_V) {
            return BAD;
        }
        if (now.ring.walkers >= MOST_WALKERS) {
            return FULL;
        }
        return now.ring.add(kind, v, cell, mood);
    }

    public int of(int walker, int what) {
        if (!isWalker(walker)) {
            return NOTHING;
        }
        Ring ring = now.ring;
        ring.lookAround();
        switch (what) {
            case 0: return ring.kind[walker];
            case 1: return ring.v[walker];
            case 2: return ring.cell[walker];
            case 3: return ring.mood[walker];
            case 4: return bit(ring.isAway(walker));
            case 5: return ring.moved[walker];
            case 6: return bit(ring.isWrong(walker));
            case 7: return bit(ring.hasCompany(walker));
            case 8: return ring.swayOf(walker);
            case 9: return ring.paceOf(walker);
            default: return NOTHING;
        }
    }

    public int row(int walker, int k, int n) {
        if (!isWalker(walker) || !isBelow(k, Ring.ROW)) {
            return NONE;
        }
        if (n < 0 || n > MOST_V) {
            return BAD;
        }
        if (!isUnder(walker, 6)) {
            return STATE;
        }
        int place = walker * Ring.ROW + k;
        int was = now.ring.row[place];
        now.ring.row[place] = n;
        return was;
    }

    public int set(int walker, int what, int n) {
        if (!isWalker(walker)) {
            return NONE;
        }
        int was = NONE;
        if (what == 0 && isBelow(n, CELLS)) {
            was = now.ring.cell[walker];
            now.ring.cell[walker] = n;
        } else if (what == 1 && isBelow(n, MOODS)) {
            was = now.ring.mood[walker];
            now.ring.mood[walker] = n;
        }
        return was;
    }

    public int away(int walker, boolean is) {
        if (!isWalker(walker)) {
            return NONE;
        }
        int was = bit(now.ring.isAway(walker));
        now.ring.putAway(walker, is);
        return was;
    }

    public int told(int what) {
        Ring ring = now.ring;
        if (what >= 10 && what < 10 + MOODS) {
            return ring.road[what - 10];
        }
        switch (what) {
            case 0: return ring.step;
            case 1: return now.park.rain;
            case 2: return bit(ring.isRaining());
            case 3: return ring.keepers;
            case 4: return ring.wrongOnes();
            case 5: return ring.movedOfAll();
            case 6: return startTrial().trouble(NO_LIMIT);
            case 7: return ring.onAnyRoad();
            case 8: return ring.onJustOneRoad();
            default: return NONE;
        }
    }

    public int pass(int n) {
        if (n < 0 || n > MOST_AHEAD) {
            return BAD;
        }
        if (now.ring.step + n > MOST_STEP) {
            return STATE;
        }
        now.ring.goOn(n);
        return now.ring.step;
    }

    // ---- steps to come

    public int on(int n, int what) {
        int cellOf = what - 10;
        int moodOf = what - 20;
        if (what != 0 && what != 1 && !isWalker(cellOf) && !isWalker(moodOf)) {
            return NONE;
        }
        if (n < 0 || n > MOST_AHEAD) {
            return BAD;
        }
        Ring ring = startTrial();
        ring.goOn(n);
        if (what == 0) {
            return ring.wrongOnes();
        }
        if (what == 1) {
            return ring.movedOfAll();
        }
        return isWalker(cellOf) ? ring.cell[cellOf] : ring.mood[moodOf];
    }

    public int strays(int walker) {
        if (!isWalker(walker)) {
            return NONE;
        }
        Ring ring = startTrial();
        for (int n = 0; n <= MOST_AHEAD; n++) {
            if (ring.isWrong(walker)) {
                return n;
            }
            ring.goOn(1);
        }
        return NEVER;
    }

    public int meet(int one, int other) {
        if (!isWalker(one) || !isWalker(other)) {
            return NONE;
        }
        if (one == other) {
            return BAD;
        }
        Ring ring = startTrial();
        for (int n = 0; n <= MOST_AHEAD; n++) {
            if (ring.cell[one] == ring.cell[other] && ring.mood[one] == ring.mood[other]) {
                return n;
            }
            ring.goOn(1);
        }
        return NEVER;
    }

    public int posts(int n, int what) {
        if (what != 0 && what != 1) {
            return NONE;
        }
        if (n < 0 || n > MOST_POSTS) {
            return BAD;
        }
        int least = NO_LIMIT;
        int best = 0;
        int posts = (1 << n) - 1;
        for (int tries = 0; tries < MOST_SETS && posts <= ALL_CELLS && least > 0; tries++) {
            Ring ring = startTrial();
            ring.keepers = posts;
            int trouble = ring.trouble(least);
            if (trouble < least) {
                least = trouble;
                best = posts;
            }
            posts = nextSet(posts);
        }
        return what == 0 ? best : least;
    }

    public int gravel() {
        int least = startTrial().trouble(NO_LIMIT);
        int best = NEVER;
        for (int mood = 0; mood < MOODS; mood++) {
            for (int cell = 0; cell < CELLS && least > 0; cell++) {
                Ring ring = startTrial();
                ring.road[mood] ^= 1 << cell;
                int trouble = ring.trouble(least);
                if (trouble < least) {
                    least = trouble;
                    best = 100 * mood + cell;
                }
            }
        }
        return best;
    }

    // ---- seen, odds; part 0 above, 1 below the line

    public int see(int walker, int n, boolean isWrong) {
        if (walker == -1) {
            now.seen.clear();
            return 0;
        }
        if (!isWalker(walker)) {
            return NONE;
        }
        if (n < 0 || n > MOST_SEEN_AHEAD) {
            return BAD;
        }
        if (now.seen.isFull()) {
            return FULL;
        }
        now.seen.add(walker, n, bit(isWrong));
        return now.seen.size;
    }

    public int felt(int walker) {
        if (!isWalker(walker)) {
            return NONE;
        }
        int moods = 0;
        for (int mood = 0; mood < MOODS; mood++) {
            Ring ring = startTrial();
            ring.mood[walker] = mood;
            moods |= bit(ring.isAsSeen(now.seen)) << mood;
        }
        return moods;
    }

    public int where(int walker) {
        if (!isWalker(walker)) {
            return NONE;
        }
        int cells = 0;
        for (int cell = 0; cell < CELLS; cell++) {
            Ring ring = startTrial();
            ring.cell[walker] = cell;
            cells |= bit(ring.isAsSeen(now.seen)) << cell;
        }
        return cells;
    }

    public int firm(int walker, int what) {
        if (!isWalker(walker) || what != 0 && what != 1) {
            return NONE;
        }
        int many = 0;
        int least = NEVER;
        for (int v = MOST_V; v >= 0; v--) {
            Ring ring = startTrial();
            ring.v[walker] = v;
            if (ring.isAsSeen(now.seen)) {
                many++;
                least = v;
            }
        }
        return what == 0 ? many : least;
    }

    public long odds(int walker, int n, int part) {
        if (!isWalker(walker) || n < 0 || n > MOST_AHEAD) {
            return NO;
        }
        int wrong = 0;
        for (int mood = 0; mood < MOODS; mood++) {
            Ring ring = startTrial();
            ring.mood[walker] = mood;
            ring.goOn(n);
            wrong += bit(ring.isWrong(walker));
        }
        return partOf(wrong, MOODS, part);
    }

    public long mean(int n, int part) {
        if (n < 0 || n > MOST_AHEAD) {
            return NO;
        }
        Ring ring = startTrial();
        ring.goOn(n);
        return partOf(ring.movedOfAll() - now.ring.movedOfAll(), now.ring.walkers, part);
    }

    // ---- plans, books

    public int plan(int what, int n) {
        if (what == -1) {
            now.plan.clear();
            return 0;
        }
        boolean isThere = what == PLAN_STEP
            || (what == PLAN_AWAY || what == PLAN_BACK) && isWalker(n)
            || what == PLAN_KEEPER && isBelow(n, CELLS);
        if (!isThere) {
            return NONE;
        }
        if (now.plan.isFull()) {
            return FULL;
        }
        now.plan.add(what, n, 0);
        return now.plan.size;
    }

    public int done(int what) {
        if (what != 0 && what != 1) {
            return NONE;
        }
        Ring ring = startTrial();
        for (int i = 0; i < now.plan.size; i++) {
            int n = now.plan.second[i];
            switch (now.plan.first[i]) {
                case PLAN_AWAY: ring.putAway(n, true); break;
                case PLAN_BACK: ring.putAway(n, false); break;
                case PLAN_KEEPER: ring.keepers ^= 1 << n; break;
                default: ring.goOn(1); break;
            }
        }
        return what == 0 ? ring.wrongOnes() : ring.movedOfAll();
    }

    public int book(int walker, int mood) {
        if (walker == -1) {
            now.book.clear();
            return 0;
        }
        if (!isWalker(walker) || !isBelow(mood, MOODS)) {
            return NONE;
        }
        if (now.book.isFull()) {
            return FULL;
        }
        now.book.add(walker, mood, 0);
        return now.book.size;
    }

    public int looked() {
        for (int i = 0; i < now.book.size; i++) {
            if (now.ring.mood[now.book.first[i]] != now.book.second[i]) {
                return i;
            }
        }
        return NEVER;
    }

    // ---- acts, the image

    public int act(int walker, int act, int x) {
        ran.clear();
        if (!isWalker(walker)) {
            return 0;
        }
        Walker kind = kinds[now.ring.kind[walker]];
        int v = now.ring.v[walker];
        switch (act) {
            case 0: return kind.strolls(walker, v, x);
            case 1: return kind.looks(walker, v, x);
            case 2: return kind.tells(walker, v, x);
            default: return 0;
        }
    }

    public int trace(int i) {
        if (i < 0 || i >= ran.size || i >= ran.first.length) {
            return NONE;
        }
        return ran.first[i];
    }

    public int as(int walker, int k) {
        if (!isWalker(walker) || !isBelow(k, KINDS)) {
            return NONE;
        }
        return isUnder(walker, k) ? now.ring.v[walker] : OTHER_KIND;
    }

    public int image() {
        kept.copyFrom(now);
        isKept = true;
        return now.ring.walkers;
    }

    public int undo() {
        if (!isKept) {
            return STATE;
        }
        now.copyFrom(kept);
        return now.ring.walkers;
    }

    public int count(int what) {
        switch (what) {
            case 0: return now.ring.walkers;
            case 1: return now.parks;
            case 2: return now.seen.size;
            case 3: return now.plan.size;
            case 4: return now.book.size;
            case 5: return now.tape.size;
            case 6: return ran.size;
            default: return NONE;
        }
    }

    private static boolean isBelow(int n, int bound) {
        return n >= 0 && n < bound;
    }

    private boolean isWalker(int walker) {
        return isBelow(walker, now.ring.walkers);
    }

    private boolean isUnder(int walker, int k) {
        Walker kind = kinds[now.ring.kind[walker]];
        switch (k) {
            case 1: return kind instanceof Lover;
            case 2: return kind instanceof Stout;
            case 3: return kind instanceof Drunk;
            case 4: return kind instanceof Shy;
            case 5: return kind instanceof Proud;
            case 6: return kind instanceof Told;
            default: return true;
        }
    }

    private static int bit(boolean is) {
        return is ? 1 : 0;
    }

    /** The one trial ring, as all is now: what is only asked is tried out there. */
    private Ring startTrial() {
        trial.copyFrom(now.ring);
        return trial;
    }

    /** The next greater set, as bits, of as many cells; one beyond all cells behind the last. */
    private static int nextSet(int cells) {
        if (cells == 0) {
            return ALL_CELLS + 1;
        }
        int least = cells & -cells;
        int carried = cells + least;
        return carried | ((carried ^ cells) >>> 2) >>> Integer.bitCount(least - 1);
    }

    private static long partOf(int above, int below, int part) {
        if (below == 0 || part != 0 && part != 1) {
            return NO;
        }
        int shared = below;
        int rest = above;
        for (int i = 0; i < 100 && rest != 0; i++) {
            int next = shared % rest;
            shared = rest;
            rest = next;
        }
        return part == 0 ? above / shared : below / shared;
    }

    /** Rows of up to three numbers; the first ones are kept, as many as there is room for. */
    private static final class Rows {
        final int[] first;
        final int[] second;
        final int[] third;
        int size;

        Rows(int most) {
            first = new int[most];
            second = new int[most];
            third = new int[most];
        }

        boolean isFull() {
            return size >= first.length;
        }

        void clear() {
            size = 0;
        }

        void add(int one, int two, int three) {
            if (size >= 0 && size < first.length) {
                first[size] = one;
                second[size] = two;
                third[size] = three;
            }
            size++;
        }

        void copyFrom(Rows other) {
            copy(other.first, first);
            copy(other.second, second);
            copy(other.third, third);
            size = other.size;
        }

        static void copy(int[] from, int[] to) {
            System.arraycopy(from, 0, to, 0, Math.min(from.length, to.length));
        }
    }

    /** All that there is, but the image and the trace. */
    private static final class Whole {
        final Park park;
        final Ring ring;
        final Rows tape = new Rows(Park.MOST_SIGNS);
        final Rows seen = new Rows(6);
        final Rows plan = new Rows(8);
        final Rows book = new Rows(8);
        int parks;

        Whole(Park park, Walker[] kinds) {
            this.park = park;
            this.ring = new Ring(park, kinds, MOST_MOVED);
        }

        void copyFrom(Whole other) {
            park.copyFrom(other.park);
            ring.copyFrom(other.ring);
            tape.copyFrom(other.tape);
            seen.copyFrom(other.seen);
            plan.copyFrom(other.plan);
            book.copyFrom(other.book);
            parks = other.parks;
        }
    }

    /** The ring of cells with its roads, keepers and walkers, which goes step by step. */
    private static final class Ring {
        static final int ROW = 4;
        static final int TROUBLE_STEPS = 12;

        final int[] road = new int[MOODS];
        final int[] kind = new int[MOST_WALKERS];
        final int[] v = new int[MOST_WALKERS];
        final int[] cell = new int[MOST_WALKERS];
        final int[] mood = new int[MOST_WALKERS];
        final int[] moved = new int[MOST_WALKERS];
        final int[] row = new int[MOST_WALKERS * ROW];
        int walkers;
        int step;
        int keepers;
        private int away;
        private final Park park;
        private final Walker[] kinds;
        private final int mostMoved;
        private final int[] nextCell = new int[MOST_WALKERS];
        private final int[] nextMood = new int[MOST_WALKERS];
        private int takenCells;
        private int sharedCells;

        Ring(Park park, Walker[] kinds, int mostMoved) {
            this.park = park;
            this.kinds = kinds;
            this.mostMoved = mostMoved;
        }

        void copyFrom(Ring other) {
            Rows.copy(other.road, road);
            Rows.copy(other.kind, kind);
            Rows.copy(other.v, v);
            Rows.copy(other.cell, cell);
            Rows.copy(other.mood, mood);
            Rows.copy(other.moved, moved);
            Rows.copy(other.row, row);
            walkers = other.walkers;
            step = other.step;
            keepers = other.keepers;
            away = other.away;
        }

        int add(int itsKind, int itsV, int itsCell, int itsMood) {
            int w = walkers;
            kind[w] = itsKind;
            v[w] = itsV;
            cell[w] = itsCell;
            mood[w] = itsMood;
            moved[w] = 0;
            for (int k = 0; k < ROW; k++) {
                row[w * ROW + k] = 0;
            }
            putAway(w, false);
            walkers++;
            return w;
        }

        boolean isAway(int w) {
            return (away >> w & 1) != 0;
        }

        void putAway(int w, boolean is) {
            away = is ? away | 1 << w : away & ~(1 << w);
        }

        boolean isWrong(int w) {
            return (road[mood[w]] >> cell[w] & 1) == 0;
        }

        boolean isRaining() {
            return park.rain > 0 && step % park.rain == 0;
        }

        /** Told ahead of a step or a question, so that company is a look at bits and no walk over all. */
        void lookAround() {
            takenCells = 0;
            sharedCells = 0;
            for (int w = 0; w < walkers; w++) {
                if (!isAway(w)) {
                    int place = 1 << cell[w];
                    sharedCells |= takenCells & place;
                    takenCells |= place;
                }
            }
        }

        /** As of the last lookAround(); one that is away is not counted there itself. */
        boolean hasCompany(int w) {
            int cells = isAway(w) ? takenCells : sharedCells;
            return (cells >> cell[w] & 1) != 0;
        }

        int swayOf(int w) {
            int sum = park.sumOf(w, kind[w], v[w], cell[w], mood[w], step % 10);
            return kinds[kind[w]].sway(this, w, sum);
        }

        int paceOf(int w) {
            return isRaining() ? 0 : kinds[kind[w]].pace(this, w);
        }

        int wrongOnes() {
            int many = 0;
            for (int w = 0; w < walkers; w++) {
                if (!isAway(w) && isWrong(w)) {
                    many++;
                }
            }
            return many;
        }

        int movedOfAll() {
            int sum = 0;
            for (int w = 0; w < walkers; w++) {
                sum += moved[w];
            }
            return sum;
        }

        int onAnyRoad() {
            int cells = 0;
            for (int m = 0; m < MOODS; m++) {
                cells |= road[m];
            }
            return cells;
        }

        int onJustOneRoad() {
            int any = 0;
            int several = 0;
            for (int m = 0; m < MOODS; m++) {
                several |= any & road[m];
                any |= road[m];
            }
            return any & ~several;
        }

        /** How many are wrong behind each of the next steps, together; given up where it is no longer below the limit. */
        int trouble(int limit) {
            int sum = 0;
            for (int n = 0; n < TROUBLE_STEPS && sum < limit; n++) {
                goOneStep();
                sum += wrongOnes();
            }
            return sum;
        }

        /** Goes on, as far as what is seen asks for it. */
        boolean isAsSeen(Rows seen) {
            int last = 0;
            for (int i = 0; i < seen.size; i++) {
                last = Math.max(last, seen.second[i]);
            }
            for (int n = 0; n <= last; n++) {
                if (n > 0) {
                    goOneStep();
                }
                for (int i = 0; i < seen.size; i++) {
                    if (seen.second[i] == n && isWrong(seen.first[i]) != (seen.third[i] == 1)) {
                        return false;
                    }
                }
            }
            return true;
        }

        void goOn(int steps) {
            for (int n = 0; n < steps; n++) {
                goOneStep();
            }
        }

        private void goOneStep() {
            lookAround();
            for (int w = 0; w < walkers; w++) {
                if (!isAway(w)) {
                    nextCell[w] = cell[w] + paceOf(w) & CELLS - 1;
                    nextMood[w] = mood[w] + swayOf(w) & MOODS - 1;
                }
            }
            for (int w = 0; w < walkers; w++) {
                if (!isAway(w)) {
                    cell[w] = nextCell[w];
                    mood[w] = nextMood[w];
                    handOver(w);
                }
            }
            step++;
        }

        private void handOver(int w) {
            if ((keepers >> cell[w] & 1) == 0 || !isWrong(w)) {
                return;
            }
            moved[w] = Math.min(mostMoved, moved[w] + 1);
            for (int m = 0; m < MOODS; m++) {
                if ((road[m] >> cell[w] & 1) != 0) {
                    mood[w] = m;
                    return;
                }
            }
        }
    }

    /** A park, read from a tape: its rain, and its stirs and calms as steps of a small stack machine. */
    private static final class Park {
        static final int MOST_SIGNS = 100;
        static final int SUMS = MOST_WALKERS * 10 * CELLS * MOODS;
        private static final int MOST_CLAUSES = 10, MOST_OPEN = 5;
        private static final int AND = 18, OR = 19, NOT = 20, STIR = 21, CALM = 22;
        private static final int SUM_BITS = 11, SUM_ZERO = 1024;
        private static final String LETTERS = "pkvcms", SIGNS = "<=>";

        int rain;
        int edition;
        int place;
        private final int[] deed = new int[MOST_SIGNS];
        private final int[] number = new int[MOST_SIGNS];
        private final int[] facts = new int[6];
        private final int[] sums;
        private int size;
        private Rows tape;
        private int sign;
        private boolean isFaulty;

        Park(int[] sums) {
            this.sums = sums;
        }

        void copyFrom(Park other) {
            Rows.copy(other.deed, deed);
            Rows.copy(other.number, number);
            size = other.size;
            rain = other.rain;
            edition = other.edition;
        }

        /** Whether the tape is a park; if not, place is the first one with which none can go on. */
        boolean read(Rows text) {
            tape = text;
            place = -1;
            isFaulty = false;
            size = 0;
            rain = 0;
            next();
            for (int clauses = 1; clauses <= MOST_CLAUSES; clauses++) {
                readClause();
                if (isFaulty || place >= tape.size) {
                    return !isFaulty;
                }
                if (clauses < MOST_CLAUSES) {
                    take(';');
                }
            }
            return false;
        }

        private void readClause() {
            if (sign == 'r') {
                takeWord("rain ");
                rain = readNumber();
                return;
            }
            boolean isStir = sign == 's';
            takeWord(isStir ? "stir " : "calm ");
            int n = readNumber();
            take(' ');
            readEither(0);
            write(isStir ? STIR : CALM, n);
        }

        private void readEither(int open) {
            readBoth(open);
            for (int i = 0; i < MOST_SIGNS && sign == '|'; i++) {
                next();
                readBoth(open);
                write(OR, 0);
            }
        }

        private void readBoth(int open) {
            readPart(open);
            for (int i = 0; i < MOST_SIGNS && sign == '&'; i++) {
                next();
                readPart(open);
                write(AND, 0);
            }
        }

        private void readPart(int open) {
            if (sign == '!' || sign == '(') {
                readOpen(open);
                return;
            }
            int letter = takeOneOf(LETTERS);
            int compared = takeOneOf(SIGNS);
            write(letter * SIGNS.length() + compared, readNumber());
        }

        private void readOpen(int open) {
            if (open >= MOST_OPEN) {
                fail();
            } else if (sign == '!') {
                next();
                readPart(open + 1);
                write(NOT, 0);
            } else {
                next();
                readEither(open + 1);
                if (sign == ')') {
                    next();
                } else {
                    fail();
                }
            }
        }

        private int readNumber() {
            if (!isDigit()) {
                fail();
                return 0;
            }
            int n = sign - '0';
            next();
            if (n > 0 && isDigit()) {
                n = n * 10 + sign - '0';
                next();
            }
            return n;
        }

        private boolean isDigit() {
            return sign >= '0' && sign <= '9';
        }

        private int takeOneOf(String signs) {
            int which = sign < 0 ? -1 : signs.indexOf((char) sign);
            if (which < 0) {
                fail();
                return 0;
            }
            next();
            return which;
        }

        private void takeWord(String word) {
            for (int i = 0; i < word.length(); i++) {
                take(word.charAt(i));
            }
        }

        private void take(int due) {
            if (sign == due) {
                next();
            } else {
                fail();
            }
        }

        private void next() {
            place++;
            sign = place >= 0 && place < tape.size && place < MOST_SIGNS ? tape.first[place] : -1;
        }

        /** No sign fits behind a fault, so that its place stays. */
        private void fail() {
            isFaulty = true;
            sign = -1;
        }

        private void write(int what, int n) {
            if (size < MOST_SIGNS) {
                deed[size] = what;
                number[size] = n;
                size++;
            }
        }

        /** Sums are kept with what they hold for, so that they need not be forgotten when that becomes another. */
        int sumOf(int w, int kind, int v, int cell, int mood, int step) {
            if (size == 0) {
                return 0;
            }
            int slot = ((w * 10 + step) * CELLS + cell) * MOODS + mood;
            int holdsFor = (edition * KINDS + kind) * (MOST_V + 1) + v;
            if (sums[slot] >> SUM_BITS != holdsFor) {
                facts[0] = w;
                facts[1] = kind;
                facts[2] = v;
                facts[3] = cell;
                facts[4] = mood;
                facts[5] = step;
                sums[slot] = holdsFor << SUM_BITS | sumOfFacts() + SUM_ZERO;
            }
            return (sums[slot] & (1 << SUM_BITS) - 1) - SUM_ZERO;
        }

        private int sumOfFacts() {
            int sum = 0;
            int stack = 0;
            for (int i = 0; i < size; i++) {
                int top = stack & 1;
                switch (deed[i]) {
                    case AND: stack = stack >> 1 & (top | ~1); break;
                    case OR: stack = stack >> 1 | top; break;
                    case NOT: stack ^= 1; break;
                    case STIR: sum += top * number[i]; stack = 0; break;
                    case CALM: sum -= top * number[i]; stack = 0; break;
                    default: stack = stack << 1 | bit(holds(deed[i], number[i])); break;
                }
            }
            return sum;
        }

        private boolean holds(int test, int n) {
            int fact = facts[test / 3];
            switch (test % 3) {
                case 0: return fact < n;
                case 1: return fact == n;
                default: return fact > n;
            }
        }
    }

    /** The kind WALKER: how one sways, paces and acts; the kinds under it say what they do otherwise. */
    private static class Walker {
        private final Rows ran;

        Walker(Rows ran) {
            this.ran = ran;
        }

        int sway(Ring ring, int w, int sum) {
            return sum;
        }

        int pace(Ring ring, int w) {
            return 1;
        }

        int strolls(int i, int v, int x) {
            begin(1);
            return x + i;
        }

        int looks(int i, int v, int x) {
            begin(2);
            return strolls(i, v, x) - v;
        }

        int tells(int i, int v, int x) {
            begin(3);
            return looks(i, v, x) * 2;
        }

        final void begin(int body) {
            ran.add(body, 0, 0);
        }
    }

    private static class Lover extends Walker {
        Lover(Rows ran) {
            super(ran);
        }

        int sway(Ring ring, int w, int sum) {
            return ring.hasCompany(w) ? 0 : super.sway(ring, w, sum);
        }

        int strolls(int i, int v, int x) {
            begin(11);
            return super.strolls(i, v, x * 3);
        }
    }

    private static class Stout extends Walker {
        Stout(Rows ran) {
            super(ran);
        }

        int sway(Ring ring, int w, int sum) {
            return 2 * super.sway(ring, w, sum);
        }

        int pace(Ring ring, int w) {
            return ring.step % 2 == 0 ? 1 : 0;
        }

        int looks(int i, int v, int x) {
            begin(21);
            return -super.looks(i, v, x);
        }
    }

    private static class Drunk extends Walker {
        Drunk(Rows ran) {
            super(ran);
        }

        int sway(Ring ring, int w, int sum) {
            return super.sway(ring, w, sum) + 1;
        }

        int pace(Ring ring, int w) {
            return ring.v[w] % 3;
        }

        int tells(int i, int v, int x) {
            begin(31);
            return super.tells(i, v, x) ^ 7;
        }
    }

    private static final class Shy extends Lover {
        Shy(Rows ran) {
            super(ran);
        }

        int sway(Ring ring, int w, int sum) {
            return super.sway(ring, w, sum) + (ring.hasCompany(w) ? 2 : 0);
        }

        int pace(Ring ring, int w) {
            return ring.hasCompany(w) ? 15 : super.pace(ring, w);
        }

        int tells(int i, int v, int x) {
            begin(41);
            return super.tells(i, v, x - 1) + strolls(i, v, 2);
        }
    }

    private static final class Proud extends Stout {
        Proud(Rows ran) {
            super(ran);
        }

        int sway(Ring ring, int w, int sum) {
            return ring.isWrong(w) ? super.sway(ring, w, sum) : 0;
        }

        int pace(Ring ring, int w) {
            return super.pace(ring, w) + 1;
        }

        int strolls(int i, int v, int x) {
            begin(51);
            return super.strolls(i, v, x) ^ i;
        }
    }

    private static final class Told extends Drunk {
        Told(Rows ran) {
            super(ran);
        }

        int sway(Ring ring, int w, int sum) {
            return super.sway(ring, w, sum) + ring.row[w * Ring.ROW + ring.step % Ring.ROW];
        }

        int looks(int i, int v, int x) {
            begin(61);
            return super.looks(i, v, x) + v;
        }
    }
}
