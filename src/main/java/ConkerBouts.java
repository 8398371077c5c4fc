/** A yard of conkers, as ../shared/DOC.md tells it: this class looks at what a call is given, and counts what it refuses. */
public final class ConkerBouts {
    public static final int NONE = -1, BAD = -2, NO = -3, FULL = -4;

    private static final int NOT_SO_MANY = -5, BAD_BELOW_NOT_SO_MANY = -10;
    private static final int MOST_PLAYERS = 3, MOST_NUTS = 6, KINDS = 6, HARDS = 10;
    private static final int CRACKS_OF_BROKEN = 10, MOST_SCORE = 999, MOST_NUMBER = 9999;
    private static final int LONGEST_BOUT = 60, IMAGES = 2;

    private final Game now = new Game();
    private final Game[] images = new Game[IMAGES];
    private final Text text = new Text();
    private final Trial trial = new Trial();
    private final Guess guess = new Guess();
    private long above = 0, below = 1;
    private int timesBad, timesNo, timesFull;

    public ConkerBouts() {
    }

    // ---- a yard

    public int yard(int t) {
        if (!within(t, 0, 99)) return bad();
        int before = now.yard.nuts;
        now.restart(t);
        return before;
    }

    public int player(int kind, int arm) {
        if (!isKind(kind) || !within(arm, 1, 9)) return bad();
        if (now.yard.players >= MOST_PLAYERS) return full();
        now.past.empty();
        return now.yard.addPlayer(kind, arm);
    }

    public int nut(int p, int kind, int hard, int weight) {
        if (!now.yard.isPlayer(p) || !isKind(kind) || !within(hard, 0, 9) || !within(weight, 1, 9)) return bad();
        if (now.yard.nuts >= MOST_NUTS) return full();
        now.past.empty();
        return now.yard.addNut(p, kind, hard, weight);
    }

    public int type(int c) {
        if (!within(c, 0, 127)) return bad();
        if (text.isFull()) return full();
        text.add(c);
        return text.size;
    }

    public int clear() {
        int before = text.size;
        text.size = 0;
        return before;
    }

    public int read() {
        Yard told = trial.ground;
        int items = text.readInto(told);
        if (items == NONE) return -10 - text.fault;
        now.restart(0);
        now.yard.copyOf(told);
        return items;
    }

    // ---- strikes

    public int strikes(int i, int j) {
        if (!areTwoNuts(i, j)) return bad();
        if (!now.yard.canStrike(i, j)) return no();
        now.past.keep(now.yard);
        now.yard.strike(i, j);
        return now.yard.fact(j, Yard.CRACKS);
    }

    public int waits(int n) {
        if (!within(n, 1, 60)) return bad();
        now.past.keep(now.yard);
        now.yard.pass(n);
        return now.yard.number;
    }

    public int hands(int i, int p) {
        if (!now.yard.isNut(i) || !now.yard.isPlayer(p)) return bad();
        int before = now.yard.fact(i, Yard.OWNER);
        if (before == p || now.yard.isBroken(i)) return no();
        now.past.keep(now.yard);
        now.yard.handOver(i, p);
        return before;
    }

    public int undo() {
        if (now.past.size == 0) return no();
        now.past.takeBack(now.yard);
        return now.yard.number;
    }

    public int of(int i, int what) {
        if (!now.yard.isNut(i) || !within(what, 0, 7)) return bad();
        return now.yard.fact(i, what);
    }

    public int who(int p, int what) {
        if (!now.yard.isPlayer(p) || !within(what, 0, 3)) return bad();
        return now.yard.playerFact(p, what);
    }

    // ---- what is left

    public int crack(int i, int j, int what) {
        if (!areTwoNuts(i, j) || !within(what, 0, 1)) return bad();
        if (!now.yard.canStrike(i, j)) return NONE;
        trial.ground.copyOf(now.yard);
        trial.ground.strike(i, j);
        return trial.ground.fact(what == 0 ? j : i, Yard.CRACKS);
    }

    public int lasts(int i, int j, int what) {
        if (!areTwoNuts(i, j) || !within(what, 0, 1)) return bad();
        int strikes = trial.fightOn(now.yard, i, j, false);
        return what == 0 || strikes == NONE ? strikes : trial.ground.leftOf(i, j);
    }

    public int bout(int i, int j, int what) {
        if (!areTwoNuts(i, j) || !within(what, 0, 2)) return bad();
        int strikes = trial.fightOn(now.yard, i, j, true);
        if (what == 0 || strikes == NONE) return strikes;
        int left = trial.ground.leftOf(i, j);
        if (what == 1 || left == NONE) return left;
        return trial.ground.fact(left, Yard.SCORE);
    }

    public int rank(int k) {
        if (k < 0) return bad();
        if (k >= now.yard.nuts) return no();
        return now.yard.ranked(k);
    }

    public int order(int i, int k) {
        if (!now.yard.isNut(i) || k < -2) return badBelow();
        int met = trial.findOrder(now.yard, i);
        if (k == -2) return trial.bestScore;
        if (k == NONE) return trial.bestCracks;
        return k < met ? trial.inOrder(k) : NOT_SO_MANY;
    }

    public int firm(int i, int j) {
        if (!areTwoNuts(i, j)) return bad();
        return trial.leastHard(now.yard, i, j);
    }

    public int fit(int p, int what) {
        if (!now.yard.isPlayer(p) || !within(what, 0, 1)) return bad();
        int match = trial.bestMatch(now.yard, p);
        return what == 0 || match == NONE ? match : trial.bestScore;
    }

    // ---- how hard

    public int seen(int i, int t, int c, int f, int x) {
        if (!now.yard.isNut(i) || !isSight(t, c, f, x)) return bad();
        if (now.seen.isFull()) return full();
        return now.seen.add(i, t, c, f, x, 0);
    }

    public int hards(int i) {
        if (!now.yard.isNut(i)) return bad();
        return guess.thatFit(Game.SEEN, now, i);
    }

    public int tell(int i) {
        if (!now.yard.isNut(i)) return bad();
        return guess.best(Game.SEEN, now, i);
    }

    public int note(int i, int h, int t, int c, int f, int x) {
        if (!now.yard.isNut(i) || !within(h, 0, 9) || !isSight(t, c, f, x)) return bad();
        if (now.notes.isFull()) return full();
        return now.notes.add(i, h, t, c, f, x);
    }

    public int mark(int p, int a, int w, int t, int x) {
        if (!now.yard.isPlayer(p) || !within(a, 1, 9) || !within(w, 1, 9)) return bad();
        if (!within(t, 0, 99) || !within(x, 0, 60)) return bad();
        if (now.marks.isFull()) return full();
        return now.marks.add(p, a, w, t, x, 0);
    }

    public int forget(int what) {
        if (!within(what, 0, 2)) return bad();
        Rows rows = now.rowsOf(what);
        int before = rows.size;
        rows.size = 0;
        return before;
    }

    public int is(int i) {
        if (!now.yard.isNut(i)) return bad();
        return guess.thatFit(Game.NOTES, now, i);
    }

    public int look(int i) {
        if (!now.yard.isNut(i)) return bad();
        return guess.best(Game.NOTES, now, i);
    }

    public int kinds(int p) {
        if (!now.yard.isPlayer(p)) return bad();
        return guess.thatFit(Game.MARKS, now, p);
    }

    public int ask(int p) {
        if (!now.yard.isPlayer(p)) return bad();
        return guess.best(Game.MARKS, now, p);
    }

    public int pair(int a, int b, int k) {
        if (!now.yard.isPlayer(a) || !now.yard.isPlayer(b) || a == b || k < NONE) return badBelow();
        int resting = trial.findResting(now.yard, a, b);
        if (k == NONE) return resting;
        return k < resting ? trial.restingPair(k) : NOT_SO_MANY;
    }

    public int odds(int i, int j, int n, int c) {
        if (!areTwoNuts(i, j) || !within(n, 0, 6) || !within(c, 0, 10)) return bad();
        long ways = trial.waysToBreak(now.yard, i, j, n, c);
        long all = powerOfTen(n);
        long common = commonDivisor(ways, all);
        if (common > 0) {
            above = ways / common;
            below = all / common;
        }
        return 1;
    }

    public int days(int seed, int n) {
        if (!within(seed, 0, 999999) || !within(n, 0, 60)) return bad();
        return trial.brokenBehindDays(now.yard, seed, n);
    }

    // ---- what there is

    public long part(int what) {
        if (!within(what, 0, 1)) return bad();
        return what == 0 ? above : below;
    }

    public int image(int i) {
        if (!within(i, 0, IMAGES - 1)) return bad();
        Game kept = images[i];
        if (kept == null) {
            kept = new Game();
            images[i] = kept;
        }
        kept.copyOf(now);
        return 1;
    }

    public int from(int i) {
        if (!within(i, 0, IMAGES - 1)) return bad();
        Game kept = images[i];
        if (kept == null) return no();
        now.copyOf(kept);
        return 1;
    }

    public int status(int what) {
        switch (what) {
            case 0: return timesBad;
            case 1: return timesNo;
            case 2: return timesFull;
            default:
                bad();
                return -1;
        }
    }

    public int count(int what) {
        if (!within(what, 0, 10)) return bad();
        return howMany(what);
    }

    public long digest() {
        long h = 1823;
        for (int what = 0; what <= 10; what++) h = 31 * h + howMany(what);
        h = now.yard.foldInto(h);
        h = now.seen.foldInto(h, 5);
        h = now.notes.foldInto(h, 6);
        h = now.marks.foldInto(h, 5);
        h = 31 * h + above;
        return 31 * h + below;
    }

    private int howMany(int what) {
        switch (what) {
            case 0: return now.yard.players;
            case 1: return now.yard.nuts;
            case 2: return now.yard.number;
            case 3: return now.yard.brokenBits();
            case 4: return now.yard.sumOf(Yard.CRACKS);
            case 5: return now.yard.sumOf(Yard.SCORE);
            case 6: return now.seen.size;
            case 7: return now.notes.size;
            case 8: return now.marks.size;
            case 9: return now.past.size;
            default: return text.size;
        }
    }

    private int bad() {
        timesBad++;
        return BAD;
    }

    private int badBelow() {
        timesBad++;
        return BAD_BELOW_NOT_SO_MANY;
    }

    private int no() {
        timesNo++;
        return NO;
    }

    private int full() {
        timesFull++;
        return FULL;
    }

    private boolean areTwoNuts(int i, int j) {
        return now.yard.isNut(i) && now.yard.isNut(j) && i != j;
    }

    private static boolean isSight(int t, int c, int f, int x) {
        return within(t, 0, 99) && within(c, 0, 9) && within(f, 0, 44) && within(x, 0, 60);
    }

    private static boolean isKind(int kind) {
        return within(kind, 0, KINDS - 1);
    }

    private static boolean within(int n, int least, int most) {
        return least <= n && n <= most;
    }

    private static boolean has(int bits, int k) {
        return (bits >> k & 1) != 0;
    }

    private static long powerOfTen(int n) {
        long power = 1;
        for (int k = 0; k < n; k++) power *= 10;
        return power;
    }

    private static long commonDivisor(long a, long b) {
        // numbers up to a million need far fewer than 64 steps
        for (int step = 0; step < 64 && b != 0; step++) {
            long rest = a % b;
            a = b;
            b = rest;
        }
        return a;
    }

    /** What the kinds of players and of nuts make of one blow. */
    private static final class Blow {
        private static final int STRONG = 1, SLY = 2, TIRED = 3, SMALL = 4, WILD = 5;
        private static final int OLD = 1, BAKED = 2, PICKLED = 3, HOLLOW = 4, DAMP = 5;

        static int force(int kind, int arm, int weight, int t) {
            int plain = arm + weight;
            int strong = plain + 3;
            int sly = t % 3 == 2 ? plain + 4 : plain;
            switch (kind) {
                case STRONG: return strong;
                case SLY: return sly;
                case TIRED: return Math.max(1, strong - t / 5);
                case SMALL: return (plain + 1) / 2;
                case WILD: return t % 7 == 0 ? 2 * sly : sly;
                default: return plain;
            }
        }

        /** Not cut off at ten: what a nut gets by a blow may be more than it can keep. */
        static int cracks(int kind, int hard, int had, int force, int t) {
            int plain = Math.max(0, force - hard);
            int old = plain / 2;
            int baked = force > hard ? plain + 2 : plain;
            switch (kind) {
                case OLD: return old;
                case BAKED: return baked;
                case PICKLED: return Math.min(2, old);
                case HOLLOW: return baked == 0 ? 0 : baked + had;
                case DAMP: return t % 2 == 1 ? Math.max(0, plain - 1) : plain;
                default: return plain;
            }
        }
    }

    /** Players, nuts and the number of strikes. */
    private static final class Yard {
        static final int OWNER = 0, KIND = 1, HARD = 2, WEIGHT = 3, CRACKS = 4, SCORE = 5, FORCE = 6;

        int players, nuts, number;
        private final int[] playerKind = new int[MOST_PLAYERS], arm = new int[MOST_PLAYERS];
        private final int[] owner = new int[MOST_NUTS], kind = new int[MOST_NUTS];
        private final int[] hard = new int[MOST_NUTS], weight = new int[MOST_NUTS];
        private final int[] cracks = new int[MOST_NUTS], score = new int[MOST_NUTS];

        void restart(int t) {
            players = 0;
            nuts = 0;
            number = t;
        }

        void copyOf(Yard other) {
            players = other.players;
            nuts = other.nuts;
            System.arraycopy(other.playerKind, 0, playerKind, 0, MOST_PLAYERS);
            System.arraycopy(other.arm, 0, arm, 0, MOST_PLAYERS);
            System.arraycopy(other.owner, 0, owner, 0, MOST_NUTS);
            System.arraycopy(other.kind, 0, kind, 0, MOST_NUTS);
            System.arraycopy(other.hard, 0, hard, 0, MOST_NUTS);
            System.arraycopy(other.weight, 0, weight, 0, MOST_NUTS);
            copyChangesOf(other);
        }

        /** Enough between copies of one yard on which only strikes and waiting were tried. */
        void copyChangesOf(Yard other) {
            number = other.number;
            System.arraycopy(other.cracks, 0, cracks, 0, MOST_NUTS);
            System.arraycopy(other.score, 0, score, 0, MOST_NUTS);
        }

        int addPlayer(int itsKind, int itsArm) {
            if (players < 0 || players >= MOST_PLAYERS) return FULL;
            playerKind[players] = itsKind;
            arm[players] = itsArm;
            return players++;
        }

        int addNut(int p, int itsKind, int itsHard, int itsWeight) {
            if (nuts < 0 || nuts >= MOST_NUTS) return FULL;
            owner[nuts] = p;
            kind[nuts] = itsKind;
            hard[nuts] = itsHard;
            weight[nuts] = itsWeight;
            cracks[nuts] = 0;
            score[nuts] = 1;
            return nuts++;
        }

        boolean isPlayer(int p) {
            return 0 <= p && p < players;
        }

        boolean isNut(int i) {
            return 0 <= i && i < nuts;
        }

        boolean isBroken(int i) {
            return isNut(i) && cracks[i] >= CRACKS_OF_BROKEN;
        }

        boolean isWhole(int i) {
            return isNut(i) && cracks[i] < CRACKS_OF_BROKEN;
        }

        boolean isWholeOf(int i, int p) {
            return isWhole(i) && owner[i] == p;
        }

        boolean canStrike(int i, int j) {
            if (!isNut(i) || !isNut(j) || owner[i] == owner[j]) return false;
            return cracks[i] < CRACKS_OF_BROKEN && cracks[j] < CRACKS_OF_BROKEN;
        }

        int nextNumber() {
            return Math.min(MOST_NUMBER, number + 1);
        }

        void pass(int n) {
            number = Math.min(MOST_NUMBER, number + n);
        }

        void handOver(int i, int p) {
            if (isNut(i) && isPlayer(p)) owner[i] = p;
        }

        void makeHard(int i, int h) {
            if (isNut(i)) hard[i] = h;
        }

        /** Answers false, and changes nothing, if it can not be. */
        boolean strike(int i, int j) {
            if (!canStrike(i, j)) return false;
            int force = nextForce(i);
            pass(1);
            // both by what they had ahead; neither's cracks say anything of the other's
            crackBy(j, force);
            crackBy(i, force / 2);
            if (isBroken(j) && isWhole(i)) score[i] = Math.min(MOST_SCORE, score[i] + score[j]);
            if (isBroken(i) && isWhole(j)) score[j] = Math.min(MOST_SCORE, score[j] + score[i]);
            return true;
        }

        private void crackBy(int i, int force) {
            if (!isNut(i)) return;
            int more = Blow.cracks(kind[i], hard[i], cracks[i], force, number);
            cracks[i] = Math.min(CRACKS_OF_BROKEN, cracks[i] + more);
        }

        private int nextForce(int i) {
            if (!isNut(i) || !isPlayer(owner[i])) return 0;
            int p = owner[i];
            return Blow.force(playerKind[p], arm[p], weight[i], nextNumber());
        }

        /** Who is left of two that met: none, if both are broken or neither is. */
        int leftOf(int i, int j) {
            if (isWhole(i) && isBroken(j)) return i;
            if (isWhole(j) && isBroken(i)) return j;
            return NONE;
        }

        int canStrikeBits(int i) {
            int bits = 0;
            for (int j = 0; j < nuts; j++) if (canStrike(i, j)) bits |= 1 << j;
            return bits;
        }

        int brokenBits() {
            int bits = 0;
            for (int i = 0; i < nuts; i++) if (isBroken(i)) bits |= 1 << i;
            return bits;
        }

        int sumOf(int what) {
            int sum = 0;
            for (int i = 0; i < nuts; i++) sum += fact(i, what);
            return sum;
        }

        int fact(int i, int what) {
            if (!isNut(i)) return BAD;
            switch (what) {
                case OWNER: return owner[i];
                case KIND: return kind[i];
                case HARD: return hard[i];
                case WEIGHT: return weight[i];
                case CRACKS: return cracks[i];
                case SCORE: return score[i];
                case FORCE: return nextForce(i);
                default: return canStrikeBits(i);
            }
        }

        int playerFact(int p, int what) {
            if (!isPlayer(p)) return BAD;
            if (what == 0) return playerKind[p];
            if (what == 1) return arm[p];
            int bits = 0, sum = 0;
            for (int i = 0; i < nuts; i++) {
                if (!isWholeOf(i, p)) continue;
                bits |= 1 << i;
                sum += score[i];
            }
            return what == 2 ? bits : sum;
        }

        int ranked(int k) {
            for (int i = 0; i < nuts; i++) {
                int ahead = 0;
                for (int j = 0; j < nuts; j++) if (ranksAhead(j, i)) ahead++;
                if (ahead == k) return i;
            }
            return NONE;
        }

        private boolean ranksAhead(int i, int j) {
            if (!isNut(i) || !isNut(j)) return false;
            if (isBroken(i) != isBroken(j)) return isBroken(j);
            return score[i] != score[j] ? score[i] > score[j] : i < j;
        }

        long foldInto(long h) {
            for (int p = 0; p < players; p++) {
                h = 31 * h + playerFact(p, 0);
                h = 31 * h + playerFact(p, 1);
            }
            for (int i = 0; i < nuts; i++) {
                for (int what = OWNER; what <= SCORE; what++) h = 31 * h + fact(i, what);
            }
            return h;
        }
    }

    /** What may be undone, the oldest first. */
    private static final class Past {
        private static final int MOST = 8;
        // a row: the number, then owners, cracks and scores
        private static final int OWNERS = 1, CRACKS = OWNERS + MOST_NUTS, SCORES = CRACKS + MOST_NUTS;
        private static final int WIDTH = SCORES + MOST_NUTS;

        int size;
        private final int[] cells = new int[MOST * WIDTH];

        void empty() {
            size = 0;
        }

        void copyOf(Past other) {
            size = other.size;
            System.arraycopy(other.cells, 0, cells, 0, MOST * WIDTH);
        }

        void keep(Yard yard) {
            if (size >= MOST) dropOldest();
            if (size < 0 || size >= MOST) return;
            int row = size * WIDTH;
            cells[row] = yard.number;
            System.arraycopy(yard.owner, 0, cells, row + OWNERS, MOST_NUTS);
            System.arraycopy(yard.cracks, 0, cells, row + CRACKS, MOST_NUTS);
            System.arraycopy(yard.score, 0, cells, row + SCORES, MOST_NUTS);
            size++;
        }

        void takeBack(Yard yard) {
            if (size <= 0 || size > MOST) return;
            size--;
            int row = size * WIDTH;
            yard.number = cells[row];
            System.arraycopy(cells, row + OWNERS, yard.owner, 0, MOST_NUTS);
            System.arraycopy(cells, row + CRACKS, yard.cracks, 0, MOST_NUTS);
            System.arraycopy(cells, row + SCORES, yard.score, 0, MOST_NUTS);
        }

        private void dropOldest() {
            System.arraycopy(cells, WIDTH, cells, 0, (MOST - 1) * WIDTH);
            size = MOST - 1;
        }
    }

    /** What was seen, noted or marked, as it came. */
    private static final class Rows {
        private static final int MOST = 6, WIDTH = 6;

        int size;
        private final int limit;
        private final int[] cells = new int[MOST * WIDTH];

        Rows(int limit) {
            this.limit = Math.min(MOST, limit);
        }

        boolean isFull() {
            return size >= limit;
        }

        void copyOf(Rows other) {
            size = other.size;
            System.arraycopy(other.cells, 0, cells, 0, MOST * WIDTH);
        }

        int add(int a, int b, int c, int d, int e, int f) {
            if (size < 0 || size >= MOST) return FULL;
            int row = size * WIDTH;
            cells[row] = a;
            cells[row + 1] = b;
            cells[row + 2] = c;
            cells[row + 3] = d;
            cells[row + 4] = e;
            cells[row + 5] = f;
            size++;
            return size;
        }

        int at(int row, int column) {
            boolean there = within(row, 0, MOST - 1) && within(column, 0, WIDTH - 1);
            return there ? cells[row * WIDTH + column] : 0;
        }

        long foldInto(long h, int width) {
            for (int row = 0; row < size; row++) {
                for (int column = 0; column < width; column++) h = 31 * h + at(row, column);
            }
            return h;
        }
    }

    /** All that an image keeps. */
    private static final class Game {
        static final int SEEN = 0, NOTES = 1, MARKS = 2;

        final Yard yard = new Yard();
        final Past past = new Past();
        final Rows seen = new Rows(5), notes = new Rows(6), marks = new Rows(6);

        Rows rowsOf(int sort) {
            return sort == SEEN ? seen : sort == NOTES ? notes : marks;
        }

        void restart(int t) {
            yard.restart(t);
            past.empty();
            seen.size = 0;
            notes.size = 0;
            marks.size = 0;
        }

        void copyOf(Game other) {
            yard.copyOf(other.yard);
            past.copyOf(other.past);
            seen.copyOf(other.seen);
            notes.copyOf(other.notes);
            marks.copyOf(other.marks);
        }
    }

    /** Tries things out on copies, so that the yard itself stays as it is. */
    private static final class Trial {
        private static final int PAIRS = MOST_NUTS * MOST_NUTS;

        final Yard ground = new Yard();
        int bestScore, bestCracks;
        // one for each nut met by then: orders that begin alike share what they begin with
        private final Yard[] stages = new Yard[MOST_NUTS];
        private final int[] path = new int[MOST_NUTS], bestPath = new int[MOST_NUTS];
        private final int[] firstGets = new int[PAIRS], secondGets = new int[PAIRS], resting = new int[PAIRS];

        Trial() {
            for (int n = 0; n < MOST_NUTS; n++) stages[n] = new Yard();
        }

        int fightOn(Yard yard, int i, int j, boolean byTurns) {
            ground.copyOf(yard);
            return fight(ground, i, j, byTurns);
        }

        /** Answers how many strikes it took, none if it is not over by then or can not be. */
        private static int fight(Yard yard, int i, int j, boolean byTurns) {
            for (int n = 1; n <= LONGEST_BOUT; n++) {
                boolean back = byTurns && n % 2 == 0;
                boolean was = back ? yard.strike(j, i) : yard.strike(i, j);
                if (!was) return NONE;
                if (yard.isBroken(i) || yard.isBroken(j)) return n;
            }
            return NONE;
        }

        int leastHard(Yard yard, int i, int j) {
            for (int h = 0; h < HARDS; h++) {
                ground.copyOf(yard);
                ground.makeHard(i, h);
                int strikes = fight(ground, i, j, true);
                if (strikes != NONE && ground.leftOf(i, j) == i) return h;
            }
            return NONE;
        }

        int bestMatch(Yard yard, int p) {
            int best = NONE;
            bestScore = NONE;
            for (int at = 0; at < PAIRS; at++) {
                int i = at / MOST_NUTS, j = at % MOST_NUTS;
                if (!yard.isWholeOf(i, p) || !yard.canStrike(i, j)) continue;
                fightOn(yard, i, j, true);
                int score = ground.fact(i, Yard.SCORE);
                if (ground.leftOf(i, j) != i || score <= bestScore) continue;
                best = 10 * i + j;
                bestScore = score;
            }
            return best;
        }

        /** Answers how many nuts are met. */
        int findOrder(Yard yard, int i) {
            bestScore = NONE;
            bestCracks = NONE;
            for (int n = 0; n < MOST_NUTS; n++) {
                Yard stage = stages[n];
                if (stage != null) stage.copyOf(yard);
            }
            int toMeet = yard.canStrikeBits(i);
            meetRest(i, toMeet, 0);
            return Integer.bitCount(toMeet);
        }

        int inOrder(int k) {
            return within(k, 0, MOST_NUTS - 1) ? bestPath[k] : NONE;
        }

        /** Rising, so that the first of like orders is tried first. */
        private void meetRest(int i, int toMeet, int met) {
            if (!within(met, 0, MOST_NUTS - 1)) return;
            Yard stage = stages[met];
            if (stage == null) return;
            if (toMeet == 0) {
                keepIfBetter(stage.fact(i, Yard.SCORE), stage.fact(i, Yard.CRACKS));
                return;
            }
            Yard next = met + 1 < MOST_NUTS ? stages[met + 1] : null;
            if (next == null) return;
            for (int j = 0; j < MOST_NUTS; j++) {
                if (!has(toMeet, j)) continue;
                path[met] = j;
                next.copyChangesOf(stage);
                fight(next, i, j, true);
                meetRest(i, toMeet & ~(1 << j), met + 1);
            }
        }

        private void keepIfBetter(int score, int cracks) {
            if (score < bestScore || score == bestScore && cracks >= bestCracks) return;
            bestScore = score;
            bestCracks = cracks;
            System.arraycopy(path, 0, bestPath, 0, MOST_NUTS);
        }

        /** Answers how many pairs rest. */
        int findResting(Yard yard, int a, int b) {
            for (int at = 0; at < PAIRS; at++) {
                if (isChoice(yard, a, b, at)) weigh(yard, at);
            }
            int size = 0;
            for (int at = 0; at < PAIRS; at++) {
                if (!isChoice(yard, a, b, at) || !rests(yard, a, b, at)) continue;
                if (size < PAIRS) resting[size++] = 10 * (at / MOST_NUTS) + at % MOST_NUTS;
            }
            return size;
        }

        int restingPair(int k) {
            return within(k, 0, PAIRS - 1) ? resting[k] : NONE;
        }

        private static boolean isChoice(Yard yard, int a, int b, int at) {
            return yard.isWholeOf(at / MOST_NUTS, a) && yard.isWholeOf(at % MOST_NUTS, b);
        }

        private void weigh(Yard yard, int at) {
            if (!within(at, 0, PAIRS - 1)) return;
            int i = at / MOST_NUTS, j = at % MOST_NUTS;
            ground.copyOf(yard);
            fight(ground, i, j, true);
            firstGets[at] = getsBy(yard, i);
            secondGets[at] = getsBy(yard, j);
        }

        private int getsBy(Yard yard, int i) {
            int more = ground.fact(i, Yard.SCORE) - yard.fact(i, Yard.SCORE);
            int worse = ground.fact(i, Yard.CRACKS) - yard.fact(i, Yard.CRACKS);
            return 3 * more - worse;
        }

        private boolean rests(Yard yard, int a, int b, int at) {
            if (!within(at, 0, PAIRS - 1)) return false;
            int i = at / MOST_NUTS, j = at % MOST_NUTS;
            for (int other = 0; other < MOST_NUTS; other++) {
                int firstElse = MOST_NUTS * other + j, secondElse = MOST_NUTS * i + other;
                if (yard.isWholeOf(other, a) && firstGets[firstElse] > firstGets[at]) return false;
                if (yard.isWholeOf(other, b) && secondGets[secondElse] > secondGets[at]) return false;
            }
            return true;
        }

        /** Of 10 by itself n times, how many break j and not i. */
        long waysToBreak(Yard yard, int i, int j, int n, int c) {
            long ways = 0;
            if (!within(n, 0, 6)) return ways;
            for (int hits = 0; hits < 1 << n; hits++) {
                ground.copyOf(yard);
                long weight = strikeWithMisses(i, j, n, c, hits);
                if (ground.isBroken(j) && ground.isWhole(i)) ways += weight;
            }
            return ways;
        }

        /** Strikes that can not be any more weigh too: their ways, hit or missed, add up to all ten. */
        private long strikeWithMisses(int i, int j, int n, int c, int hits) {
            long weight = 1;
            for (int k = 0; k < n; k++) {
                boolean hit = has(hits, k);
                weight *= hit ? 10 - c : c;
                if (!hit || !ground.strike(i, j)) ground.pass(1);
            }
            return weight;
        }

        int brokenBehindDays(Yard yard, int seed, int n) {
            ground.copyOf(yard);
            long x = seed;
            for (int day = 0; day < n; day++) {
                x = (x * 1103515245L + 12345L) % 2147483648L;
                int i = (int) (x / 65536 % 6), j = (int) (x / 1048576 % 6);
                if (!ground.strike(i, j)) ground.pass(1);
            }
            return Integer.bitCount(ground.brokenBits());
        }
    }

    /** What a nut or a player can be by all that was seen, and what to look at next. */
    private static final class Guess {
        private static final int LOOKS = 210;

        private final int[] answers = new int[HARDS];

        /** Hards by what was seen, kinds by notes or by marks: those by which all rows of one are so. */
        int thatFit(int sort, Game game, int who) {
            int candidates = sort == Game.SEEN ? HARDS : KINDS, bits = 0;
            for (int k = 0; k < candidates; k++) if (allFit(sort, game, who, k)) bits |= 1 << k;
            return bits;
        }

        private static boolean allFit(int sort, Game game, int who, int candidate) {
            Rows rows = game.rowsOf(sort);
            for (int row = 0; row < rows.size; row++) {
                if (rows.at(row, 0) == who && !fits(sort, game.yard, rows, row, candidate)) return false;
            }
            return true;
        }

        private static boolean fits(int sort, Yard yard, Rows rows, int row, int candidate) {
            int a = rows.at(row, 1), b = rows.at(row, 2), c = rows.at(row, 3), d = rows.at(row, 4);
            switch (sort) {
                case Game.SEEN: return Blow.cracks(yard.fact(rows.at(row, 0), Yard.KIND), candidate, b, c, a) == d;
                case Game.NOTES: return Blow.cracks(candidate, a, c, d, b) == rows.at(row, 5);
                default: return Blow.force(candidate, a, b, c) == d;
            }
        }

        /** The look by which the most candidates that answer alike are fewest. */
        int best(int sort, Game game, int who) {
            int candidates = thatFit(sort, game, who);
            if (candidates == 0) return NONE;
            int best = NONE, fewest = HARDS + 1;
            // one alone can not be bettered, and the least such look comes first
            for (int look = 0; look < LOOKS && fewest > 1; look++) {
                if (sort == Game.MARKS && look % 10 == 0) continue;
                int alike = mostAlike(sort, game.yard, who, candidates, look);
                if (alike >= fewest) continue;
                fewest = alike;
                best = look;
            }
            return best;
        }

        private int mostAlike(int sort, Yard yard, int who, int candidates, int look) {
            int size = 0, most = 0;
            for (int k = 0; k < HARDS; k++) {
                if (!has(candidates, k)) continue;
                int answer = answerOf(sort, yard, who, k, look), alike = 1;
                for (int n = 0; n < size; n++) if (answers[n] == answer) alike++;
                if (size < HARDS) answers[size++] = answer;
                most = Math.max(most, alike);
            }
            return most;
        }

        private static int answerOf(int sort, Yard yard, int who, int candidate, int look) {
            int tens = look / 10, ones = look % 10, t = yard.nextNumber();
            switch (sort) {
                case Game.SEEN: return Blow.cracks(yard.fact(who, Yard.KIND), candidate, ones, tens, t);
                case Game.NOTES: return Blow.cracks(candidate, yard.fact(who, Yard.HARD), ones, tens, t);
                default: return Blow.force(candidate, yard.playerFact(who, 1), ones, tens);
            }
        }
    }

    /** The text, and how a yard is read from it. */
    private static final class Text {
        private static final int MOST = 150;
        private static final int END = 0, WORD = 1, NUMBER = 2, SEMICOLON = 3, WRONG = 4;
        private static final String YARD = "yard", PLAYER = "player", NUT = "nut", STRIKE = "strike", WAIT = "wait";

        int size, fault;
        private final int[] bytes = new int[MOST];
        // the token looked at: its sort, its first byte, the place behind it, a number's value
        private int sort, start, behind, value;

        boolean isFull() {
            return size >= MOST;
        }

        void add(int c) {
            if (0 <= size && size < MOST) bytes[size++] = c;
        }

        /** Answers how many items there are, or none and leaves the fault's place. */
        int readInto(Yard yard) {
            yard.restart(0);
            fault = 0;
            behind = 0;
            for (int items = 0; items <= MOST; items++) {
                nextToken();
                if (sort == END && items > 0) return items;
                if (!readItem(yard, items == 0)) return NONE;
                nextToken();
                if (sort != SEMICOLON) {
                    faultHere();
                    return NONE;
                }
            }
            return NONE;
        }

        private boolean readItem(Yard yard, boolean first) {
            if (first) return spells(YARD) ? readNumber(yard) : faultHere();
            if (spells(PLAYER)) return readPlayer(yard);
            if (spells(NUT)) return readNut(yard);
            if (spells(STRIKE)) return readStrike(yard);
            if (spells(WAIT)) return readWait(yard);
            return faultHere();
        }

        private boolean readNumber(Yard yard) {
            if (!take(0, 99)) return false;
            yard.restart(value);
            return true;
        }

        private boolean readPlayer(Yard yard) {
            if (yard.players >= MOST_PLAYERS) return faultHere();
            if (!take(0, KINDS - 1)) return false;
            int kind = value;
            if (!take(1, 9)) return false;
            yard.addPlayer(kind, value);
            return true;
        }

        private boolean readNut(Yard yard) {
            if (yard.nuts >= MOST_NUTS) return faultHere();
            if (!take(0, yard.players - 1)) return false;
            int p = value;
            if (!take(0, KINDS - 1)) return false;
            int kind = value;
            if (!take(0, 9)) return false;
            int hard = value;
            if (!take(1, 9)) return false;
            yard.addNut(p, kind, hard, value);
            return true;
        }

        private boolean readStrike(Yard yard) {
            if (!take(0, yard.nuts - 1)) return false;
            int i = value;
            if (yard.isBroken(i)) return faultHere();
            if (!take(0, yard.nuts - 1)) return false;
            return yard.strike(i, value) || faultHere();
        }

        private boolean readWait(Yard yard) {
            if (!take(1, 99)) return false;
            yard.pass(value);
            return true;
        }

        private boolean take(int least, int most) {
            nextToken();
            return sort == NUMBER && within(value, least, most) || faultHere();
        }

        private boolean faultHere() {
            fault = sort == END ? size : start;
            return false;
        }

        private void nextToken() {
            start = behind;
            while (start < size && byteAt(start) == ' ') start++;
            behind = start + 1;
            int c = byteAt(start);
            if (start >= size) sort = END;
            else if (isLetter(c)) endWord();
            else if (isFigure(c)) endNumber();
            else sort = c == ';' ? SEMICOLON : WRONG;
        }

        private void endWord() {
            sort = WORD;
            while (behind < size && isLetter(byteAt(behind))) behind++;
        }

        private void endNumber() {
            while (behind < size && isFigure(byteAt(behind))) behind++;
            sort = behind - start <= 2 ? NUMBER : WRONG;
            value = byteAt(behind - 1) - '0';
            if (behind - start == 2) value += 10 * (byteAt(start) - '0');
        }

        private boolean spells(String word) {
            if (sort != WORD || behind - start != word.length()) return false;
            for (int k = 0; k < word.length(); k++) {
                if (byteAt(start + k) != word.charAt(k)) return false;
            }
            return true;
        }

        private int byteAt(int place) {
            return 0 <= place && place < size && place < MOST ? bytes[place] : NONE;
        }

        private static boolean isLetter(int c) {
            return 'a' <= c && c <= 'z';
        }

        private static boolean isFigure(int c) {
            return '0' <= c && c <= '9';
        }
    }
}
