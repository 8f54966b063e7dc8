/**
 * Things that refer to one another, each owned by another one or by the world,
 * so that nobody comes to a thing past its owner.
 *
 * All rows are made with the object and used again: no call makes an object.
 */
public final class OwnedThings {
    public static final int UNKNOWN = -1, OUTSIDE = -2, STATE = -3, FULL = -4, NONE = -9;
    public static final long LOST = Long.MIN_VALUE;

    private static final int WORLD = 6;
    // Neither a thing nor the world: to leave this one out leaves nobody out.
    private static final int NOBODY = 7;

    private static final int MOST_THINGS = 6;
    private static final int MOST_REFERENCES = 12;
    private static final int MOST_READINGS = 8;
    private static final int MOST_TOLD = 20;
    private static final int MOST_CELLS = 60;
    private static final int SHEETS = 4;
    private static final int PER_ACT = 3;

    private static final int PLAIN = 0;
    private static final int GUARDED = 1;
    private static final int DOUBLE = 2;

    private static final int REFER = 0;
    private static final int OWN = 1;
    private static final int HAND = 2;

    private static final int BYTES = 0;
    private static final int SHORTS = 1;
    private static final int INTS = 2;

    private static final int NO_FAULT = 0;
    private static final int NULL = 1;
    private static final int CAST = 2;
    private static final int INDEX = 3;
    private static final int SIZE = 4;
    private static final int FAULT_BASE = -10;

    // Answers that tell a place in a text or a row of acts lie this far down.
    private static final int PLACE_BASE = -100;
    private static final int TAKEN = -1;

    private final Web now;
    // What is tried out and thrown away; a text is read into it, too.
    private final Web trial;
    private final Readings told;
    private final Sheet[] sheets;
    private final TextReader reader;
    private int traced;
    private int lastFault;

    public OwnedThings() {
        now = new Web();
        trial = new Web();
        told = new Readings();
        sheets = new Sheet[SHEETS];
        for (int k = 0; k < SHEETS; k++) {
            sheets[k] = new Sheet();
        }
        reader = new TextReader(sheets[0], trial);
        traced = 0;
        lastFault = NO_FAULT;
    }

    // ---- 1 things

    public int things(int sheet, int lane, int i, int n) {
        lastFault = NO_FAULT;
        if (!isSheet(sheet)) {
            return UNKNOWN;
        }
        if (!isLane(lane)) {
            return OUTSIDE;
        }
        int wrong = sheets[sheet].rowFault(lane, i, n);
        if (wrong != NO_FAULT) {
            return failed(wrong);
        }
        int first = reader.firstFault(sheets[sheet], i, n);
        if (first != TAKEN) {
            return PLACE_BASE - first;
        }
        now.become(trial);
        told.dropLast(told.size());
        return now.size();
    }

    public int ofThing(int t, int what) {
        if (!now.isThing(t)) {
            return UNKNOWN;
        }
        switch (what) {
            case 0: return now.kindOf(t);
            case 1: return now.ownerOf(t);
            case 2: return now.levelOf(t);
            case 3: return now.lockOf(t);
            case 4: return now.targetsOf(t);
            case 5: return oneIf(holds(now.reached(), t));
            case 6: return now.standBefore(t);
            case 7: return oneIf(now.isLawful(t));
            case 8: return now.nearestOf(t);
            case 9: return now.tailOf(t);
            case 10: return oneIf(now.isClosed(t));
            default: return OUTSIDE;
        }
    }

    public int refers(int a, int b) {
        if (!now.mayOwn(a) || !now.isThing(b)) {
            return UNKNOWN;
        }
        return oneIf(now.find(a, b) != NONE);
    }

    public int place(int a, int b) {
        if (!now.mayOwn(a) || !now.isThing(b)) {
            return UNKNOWN;
        }
        return now.find(a, b);
    }

    // ---- 2 what changes

    public int refer(int a, int b) {
        return now.makeOrCut(a, b);
    }

    public int own(int t, int owner) {
        return now.changeOwner(t, owner);
    }

    public int hand(int t, int to) {
        return now.handOn(t, to);
    }

    public int day(int sheet, int lane, int i, int n, int what) {
        lastFault = NO_FAULT;
        if (!isSheet(sheet)) {
            return UNKNOWN;
        }
        if (!isLane(lane) || !isBetween(n, 0, MOST_TOLD) || !isAskedOfDays(what)) {
            return OUTSIDE;
        }
        Sheet row = sheets[sheet];
        int wrong = row.rowFault(lane, i, PER_ACT * n);
        if (wrong != NO_FAULT) {
            return failed(wrong);
        }
        if (now.size() == 0) {
            return STATE;
        }
        if (!areSortsKnown(row, i, n)) {
            return OUTSIDE;
        }
        trial.become(now);
        int first = firstWrong(row, i, n);
        if (what == 1) {
            return first;
        }
        return first == NONE ? afterDay(what) : PLACE_BASE - first;
    }

    private static boolean isAskedOfDays(int what) {
        return isBetween(what, 0, 4) || isBetween(what, 10, 15);
    }

    private static boolean areSortsKnown(Sheet row, int i, int n) {
        for (int act = 0; act < n; act++) {
            if (!isBetween(row.valueAt(i + PER_ACT * act), REFER, HAND)) {
                return false;
            }
        }
        return true;
    }

    private int firstWrong(Sheet row, int i, int n) {
        for (int act = 0; act < n; act++) {
            int at = i + PER_ACT * act;
            if (!isActDone(row.valueAt(at), row.valueAt(at + 1), row.valueAt(at + 2))) {
                return act;
            }
        }
        return NONE;
    }

    private boolean isActDone(int sort, int a, int b) {
        switch (sort) {
            case REFER: return trial.makeOrCut(a, b) >= 0;
            case OWN: return trial.changeOwner(a, b) >= 0;
            case HAND: return trial.handOn(a, b) >= 0;
            default: return false;
        }
    }

    private int afterDay(int what) {
        switch (what) {
            case 0: return trial.howManyReferences();
            case 2: return trial.notLawful();
            case 3: return trial.reached();
            case 4: return trial.greatestLock();
            default: return trial.isThing(what - 10) ? trial.ownerOf(what - 10) : NONE;
        }
    }

    // ---- 3 ways

    public int unlawful() {
        return now.size() == 0 ? STATE : now.notLawful();
    }

    public int past(int t, int k) {
        if (!now.isThing(t)) {
            return UNKNOWN;
        }
        if (!isBetween(k, -1, 5)) {
            return OUTSIDE;
        }
        return k == -1 ? now.findWayPast(t) : now.stopOfWayPast(t, k);
    }

    public int locks(int sheet, int lane, int i, int n) {
        lastFault = NO_FAULT;
        if (!isSheet(sheet)) {
            return UNKNOWN;
        }
        if (!isLane(lane) || !isBetween(n, 0, MOST_TOLD)) {
            return OUTSIDE;
        }
        Sheet row = sheets[sheet];
        int wrong = row.rowFault(lane, i, n);
        if (wrong != NO_FAULT) {
            return failed(wrong);
        }
        if (now.size() == 0) {
            return STATE;
        }
        return areThings(row, i, n) ? howManyInOrder(row, i, n) : UNKNOWN;
    }

    private boolean areThings(Sheet row, int i, int n) {
        for (int k = 0; k < n; k++) {
            if (!now.isThing(row.valueAt(i + k))) {
                return false;
            }
        }
        return true;
    }

    private int howManyInOrder(Sheet row, int i, int n) {
        int ahead = 0;
        for (int k = 0; k < n; k++) {
            int lock = now.lockOf(row.valueAt(i + k));
            // Each lock is above 0, so the first one is always in order.
            if (lock <= ahead) {
                return k;
            }
            ahead = lock;
        }
        return n;
    }

    // ---- 4 which lock came first

    public int reading(int a, int b, int less) {
        if (!now.isThing(a) || !now.isThing(b) || a == b) {
            return UNKNOWN;
        }
        if (!isBetween(less, 0, 1)) {
            return OUTSIDE;
        }
        return told.add(a, b, less);
    }

    public int back(int n) {
        if (!isBetween(n, 0, told.size())) {
            return OUTSIDE;
        }
        told.dropLast(n);
        return told.size();
    }

    public int kinds(int t) {
        if (!now.isThing(t)) {
            return UNKNOWN;
        }
        int set = 0;
        trial.become(now);
        for (int kind = PLAIN; kind <= DOUBLE; kind++) {
            trial.supposeKind(t, kind);
            if (told.areSo(trial)) {
                set |= bit(kind);
            }
        }
        return set;
    }

    public int owners(int t) {
        if (!now.isThing(t)) {
            return UNKNOWN;
        }
        int set = 0;
        for (int owner = 0; owner <= WORLD; owner++) {
            trial.become(now);
            if (trial.changeOwner(t, owner) >= 0 && told.areSo(trial)) {
                set |= bit(owner);
            }
        }
        return set;
    }

    public long odds(int which) {
        int all = now.howManyReferences();
        if (!isBetween(which, 0, 1) || all == 0) {
            return LOST;
        }
        int good = howManyGoodCuts(all);
        int common = commonDivisor(all, good);
        if (common == 0) {
            return LOST;
        }
        return (which == 0 ? good : all) / common;
    }

    private int howManyGoodCuts(int all) {
        int good = 0;
        for (int at = 0; at < all; at++) {
            trial.become(now);
            trial.cut(at);
            if (trial.notLawful() == 0) {
                good++;
            }
        }
        return good;
    }

    private static int commonDivisor(int a, int b) {
        for (int d = a; d > 1; d--) {
            if (a % d == 0 && b % d == 0) {
                return d;
            }
        }
        return 1;
    }

    // ---- 5 sheets, parts

    public int sheet(int k, int lane, int n) {
        lastFault = NO_FAULT;
        if (!isSheet(k)) {
            return UNKNOWN;
        }
        if (!isLane(lane) || n > MOST_CELLS) {
            return OUTSIDE;
        }
        if (n < 0) {
            return failed(SIZE);
        }
        sheets[k].renew(lane, n);
        return 1;
    }

    public int lose(int k) {
        if (!isSheet(k)) {
            return UNKNOWN;
        }
        boolean had = sheets[k].hasRow();
        sheets[k].drop();
        return oneIf(had);
    }

    public int put(int k, int i, int v) {
        lastFault = NO_FAULT;
        if (!isSheet(k)) {
            return UNKNOWN;
        }
        Sheet row = sheets[k];
        int wrong = row.rowFault(row.laneOf(), i, 1);
        if (wrong != NO_FAULT) {
            return failed(wrong);
        }
        row.setAt(i, v);
        return 1;
    }

    public long cell(int k, int i, int lane) {
        lastFault = NO_FAULT;
        if (!isSheet(k) || !isLane(lane)) {
            return LOST;
        }
        int wrong = sheets[k].rowFault(lane, i, 1);
        if (wrong != NO_FAULT) {
            lastFault = wrong;
            return LOST;
        }
        return sheets[k].valueAt(i);
    }

    public int copy(int k, int i, int other, int j, int n) {
        lastFault = NO_FAULT;
        if (!isSheet(k) || !isSheet(other)) {
            return UNKNOWN;
        }
        Sheet from = sheets[k];
        Sheet to = sheets[other];
        if (!from.hasRow() || !to.hasRow()) {
            return failed(NULL);
        }
        if (from.laneOf() != to.laneOf()) {
            return failed(CAST);
        }
        if (!from.hasCells(i, n) || !to.hasCells(j, n)) {
            return failed(INDEX);
        }
        to.takeCells(j, from, i, n);
        return n;
    }

    public int tell(int t) {
        if (!now.isThing(t)) {
            return UNKNOWN;
        }
        switch (now.kindOf(t)) {
            case GUARDED: return tellGuarded(t);
            case DOUBLE: return tellDouble(t);
            default: return tellPlain(t);
        }
    }

    private int tellPlain(int t) {
        leaveInTrace(1);
        return now.levelOf(t);
    }

    private int tellGuarded(int t) {
        leaveInTrace(2);
        return tellPlain(t) + 100;
    }

    private int tellDouble(int t) {
        leaveInTrace(3);
        int guarded = tellGuarded(t);
        return guarded + tellPlain(t);
    }

    public int hail(int t) {
        if (!now.isThing(t)) {
            return UNKNOWN;
        }
        return now.kindOf(t) == DOUBLE ? hailDouble() : hailLent(t);
    }

    private int hailLent(int t) {
        leaveInTrace(4);
        return t;
    }

    private int hailDouble() {
        leaveInTrace(5);
        return 60;
    }

    private void leaveInTrace(int body) {
        traced = 31 * traced + body;
    }

    public int as(int t, int kind) {
        lastFault = NO_FAULT;
        if (!now.isThing(t)) {
            return UNKNOWN;
        }
        if (!isBetween(kind, PLAIN, DOUBLE)) {
            return OUTSIDE;
        }
        // Each kind is one of all the kinds with a lower number, too.
        return now.kindOf(t) >= kind ? 1 : failed(CAST);
    }

    public int trace() {
        return traced;
    }

    public int fault() {
        return lastFault;
    }

    public int many(int what) {
        switch (what) {
            case 0: return now.size();
            case 1: return now.howManyReferences();
            case 2: return Integer.bitCount(now.reached());
            case 3: return Integer.bitCount(now.notLawful());
            case 4: return told.size();
            default: return OUTSIDE;
        }
    }

    private int failed(int which) {
        lastFault = which;
        return FAULT_BASE - which;
    }

    private static boolean isSheet(int k) {
        return isBetween(k, 0, SHEETS - 1);
    }

    private static boolean isLane(int lane) {
        return isBetween(lane, BYTES, INTS);
    }

    private static boolean isBetween(int v, int low, int high) {
        return v >= low && v <= high;
    }

    private static int oneIf(boolean so) {
        return so ? 1 : 0;
    }

    private static int bit(int k) {
        return 1 << k;
    }

    private static boolean holds(int set, int k) {
        return (set & 1 << k) != 0;
    }

    /** The things with their kinds, owners and references, and what follows from them. */
    private static final class Web {
        private int count;
        private int references;
        private final int[] kind;
        private final int[] owner;
        private final int[] from;
        private final int[] to;
        // Used while a way is looked for: who is how many references away from its end.
        private final int[] away;

        Web() {
            count = 0;
            references = 0;
            kind = new int[MOST_THINGS];
            owner = new int[MOST_THINGS];
            from = new int[MOST_REFERENCES];
            to = new int[MOST_REFERENCES];
            away = new int[MOST_THINGS + 1];
        }

        void become(Web other) {
            count = other.count;
            references = other.references;
            System.arraycopy(other.kind, 0, kind, 0, MOST_THINGS);
            System.arraycopy(other.owner, 0, owner, 0, MOST_THINGS);
            System.arraycopy(other.from, 0, from, 0, MOST_REFERENCES);
            System.arraycopy(other.to, 0, to, 0, MOST_REFERENCES);
        }

        void clear() {
            count = 0;
            references = 0;
        }

        int size() {
            return count;
        }

        int howManyReferences() {
            return references;
        }

        boolean isThing(int t) {
            return t >= 0 && t < count;
        }

        /** Whether this one may own and refer: a thing, or the world, if there are things. */
        boolean mayOwn(int a) {
            return isThing(a) || a == WORLD && count > 0;
        }

        int kindOf(int t) {
            return isThing(t) ? kind[t] : PLAIN;
        }

        int ownerOf(int t) {
            return isThing(t) ? owner[t] : WORLD;
        }

        void addThing(int itsKind, int itsOwner) {
            if (count < MOST_THINGS) {
                kind[count] = itsKind;
                owner[count] = itsOwner;
                count++;
            }
        }

        void supposeKind(int t, int itsKind) {
            if (isThing(t)) {
                kind[t] = itsKind;
            }
        }

        void addReference(int a, int b) {
            if (references < MOST_REFERENCES) {
                from[references] = a;
                to[references] = b;
                references++;
            }
        }

        void cut(int at) {
            if (at < 0 || at >= references) {
                return;
            }
            references--;
            for (int r = at; r < references; r++) {
                from[r] = from[r + 1];
                to[r] = to[r + 1];
            }
        }

        int find(int a, int b) {
            for (int r = 0; r < references; r++) {
                if (from[r] == a && to[r] == b) {
                    return r;
                }
            }
            return NONE;
        }

        int makeOrCut(int a, int b) {
            if (!mayOwn(a) || !isThing(b) || a == b) {
                return UNKNOWN;
            }
            int at = find(a, b);
            if (at != NONE) {
                cut(at);
            } else if (references == MOST_REFERENCES) {
                return FULL;
            } else {
                addReference(a, b);
            }
            return references;
        }

        int changeOwner(int t, int next) {
            if (!isThing(t) || !mayOwn(next) || t == next) {
                return UNKNOWN;
            }
            if (isUnder(next, t)) {
                return STATE;
            }
            int was = owner[t];
            owner[t] = next;
            return was;
        }

        int handOn(int t, int next) {
            if (!isThing(t) || !isThing(next) || t == next) {
                return UNKNOWN;
            }
            int at = singleReferenceTo(t);
            if (isUnder(next, t) || at == NONE || from[at] == next) {
                return STATE;
            }
            int was = from[at];
            from[at] = next;
            owner[t] = next;
            return was;
        }

        private int singleReferenceTo(int t) {
            int at = NONE;
            for (int r = 0; r < references; r++) {
                if (to[r] == t) {
                    if (at != NONE) {
                        return NONE;
                    }
                    at = r;
                }
            }
            return at;
        }

        private boolean isUnder(int t, int upper) {
            int at = t;
            for (int step = 0; step < MOST_THINGS && isThing(at); step++) {
                at = owner[at];
                if (at == upper) {
                    return true;
                }
            }
            return false;
        }

        int levelOf(int t) {
            int level = 0;
            int at = t;
            for (int step = 0; step < MOST_THINGS && isThing(at); step++) {
                at = owner[at];
                level++;
            }
            return level;
        }

        int lockOf(int t) {
            int level = levelOf(t);
            switch (kindOf(t)) {
                case GUARDED: return level + 1;
                case DOUBLE: return 2 * level;
                default: return level;
            }
        }

        int greatestLock() {
            int greatest = 0;
            for (int t = 0; t < count; t++) {
                greatest = Math.max(greatest, lockOf(t));
            }
            return greatest;
        }

        int targetsOf(int a) {
            return oneOn(bit(a));
        }

        /** Those that a reference of one of a set leads to. */
        private int oneOn(int set) {
            int next = 0;
            for (int r = 0; r < references; r++) {
                if (holds(set, from[r])) {
                    next |= bit(to[r]);
                }
            }
            return next;
        }

        /** Those of whom a reference leads to one of a set. */
        private int oneBack(int set) {
            int ahead = 0;
            for (int r = 0; r < references; r++) {
                if (holds(set, to[r])) {
                    ahead |= bit(from[r]);
                }
            }
            return ahead;
        }

        /** The start itself and all that references lead to from it, if one is left out. */
        private int ledTo(int start, int leftOut) {
            // If the start itself is left out, this is empty and stays so.
            int set = bit(start) & ~bit(leftOut);
            for (int round = 0; round < MOST_THINGS; round++) {
                int wider = (set | oneOn(set)) & ~bit(leftOut);
                if (wider == set) {
                    break;
                }
                set = wider;
            }
            return set;
        }

        int reached() {
            return ledTo(WORLD, NOBODY) & ~bit(WORLD);
        }

        int tailOf(int t) {
            return ledTo(t, NOBODY);
        }

        boolean isClosed(int t) {
            int tail = tailOf(t);
            for (int r = 0; r < references; r++) {
                if (!holds(tail, from[r]) && holds(tail, to[r]) && to[r] != t) {
                    return false;
                }
            }
            return true;
        }

        int standBefore(int t) {
            if (!holds(reached(), t)) {
                return 0;
            }
            int set = 0;
            for (int x = 0; x <= WORLD; x++) {
                if (mayOwn(x) && !holds(ledTo(WORLD, x), t)) {
                    set |= bit(x);
                }
            }
            return set;
        }

        boolean isLawful(int t) {
            // No way past the owner comes to one that is not reached, either.
            return !holds(ledTo(WORLD, ownerOf(t)), t);
        }

        int notLawful() {
            int set = 0;
            for (int t = 0; t < count; t++) {
                if (!isLawful(t)) {
                    set |= bit(t);
                }
            }
            return set;
        }

        int nearestOf(int t) {
            int stand = standBefore(t);
            int nearest = WORLD;
            int most = 0;
            for (int x = 0; x < count; x++) {
                if (x != t && holds(stand, x)) {
                    int before = Integer.bitCount(standBefore(x));
                    if (before > most) {
                        most = before;
                        nearest = x;
                    }
                }
            }
            return nearest;
        }

        /** How many references the shortest way past the owner has; fills the row away. */
        int findWayPast(int t) {
            away[0] = bit(t);
            for (int steps = 1; steps <= MOST_THINGS; steps++) {
                away[steps] = oneBack(away[steps - 1]) & ~bit(ownerOf(t));
                if (holds(away[steps], WORLD)) {
                    return steps;
                }
            }
            return NONE;
        }

        int stopOfWayPast(int t, int k) {
            int steps = findWayPast(t);
            if (k < 0 || k >= steps) {
                return NONE;
            }
            int at = WORLD;
            // The lowest number at each stop makes the way the first of the shortest ones.
            for (int left = steps - 1; left >= steps - 1 - k; left--) {
                at = lowestOf(targetsOf(at) & away[left]);
            }
            return at;
        }

        private int lowestOf(int set) {
            for (int t = 0; t < count; t++) {
                if (holds(set, t)) {
                    return t;
                }
            }
            return NOBODY;
        }
    }

    /** What is told of which lock is less than which. */
    private static final class Readings {
        private int count;
        private final int[] one;
        private final int[] other;
        private final int[] less;

        Readings() {
            count = 0;
            one = new int[MOST_READINGS];
            other = new int[MOST_READINGS];
            less = new int[MOST_READINGS];
        }

        int size() {
            return count;
        }

        int add(int a, int b, int isLess) {
            if (count >= MOST_READINGS) {
                return FULL;
            }
            one[count] = a;
            other[count] = b;
            less[count] = isLess;
            count++;
            return count - 1;
        }

        void dropLast(int n) {
            if (n >= 0 && n <= count) {
                count -= n;
            }
        }

        boolean areSo(Web web) {
            for (int k = 0; k < count; k++) {
                if (oneIf(web.lockOf(one[k]) < web.lockOf(other[k])) != less[k]) {
                    return false;
                }
            }
            return true;
        }
    }

    /** Nothing, or a row of numbers of a lane. */
    private static final class Sheet {
        private static final int NO_ROW = -1;

        private int lane;
        private int length;
        private final int[] cells;

        Sheet() {
            lane = BYTES;
            length = NO_ROW;
            cells = new int[MOST_CELLS];
        }

        void renew(int newLane, int n) {
            if (n < 0 || n > MOST_CELLS) {
                return;
            }
            lane = newLane;
            length = n;
            for (int i = 0; i < n; i++) {
                cells[i] = 0;
            }
        }

        void drop() {
            length = NO_ROW;
        }

        boolean hasRow() {
            return length != NO_ROW;
        }

        int laneOf() {
            return lane;
        }

        boolean hasCells(int i, int n) {
            // Taken apart so that no sum of i and n can wrap.
            return i >= 0 && i <= length && n >= 0 && n <= length - i;
        }

        /** The first fault that is come to, if n cells from i on are taken as a row of a lane. */
        int rowFault(int asLane, int i, int n) {
            if (!hasRow()) {
                return NULL;
            }
            if (lane != asLane) {
                return CAST;
            }
            if (n < 0) {
                return SIZE;
            }
            return hasCells(i, n) ? NO_FAULT : INDEX;
        }

        int valueAt(int i) {
            return i >= 0 && i < length ? cells[i] : 0;
        }

        void setAt(int i, int v) {
            if (i >= 0 && i < length) {
                cells[i] = cutToLane(v);
            }
        }

        private int cutToLane(int v) {
            switch (lane) {
                case BYTES: return (byte) v;
                case SHORTS: return (short) v;
                default: return v;
            }
        }

        void takeCells(int j, Sheet source, int i, int n) {
            if (hasCells(j, n) && source.hasCells(i, n)) {
                // This library call keeps cells that overlap as they were.
                System.arraycopy(source.cells, i, cells, j, n);
            }
        }
    }

    /** Reads a text into a web, code by code, up to its first fault. */
    private static final class TextReader {
        private static final int BEGIN = 111;
        private static final int PLAIN_LETTER = 112;
        private static final int GUARDED_LETTER = 103;
        private static final int DOUBLE_LETTER = 100;
        private static final int WORLD_LETTER = 119;
        private static final int SEMICOLON = 59;
        private static final int COMMA = 44;
        private static final int DIGIT_ZERO = 48;
        // No code that a text can have, so that its end fits nowhere.
        private static final int END = -1;

        private Sheet row;
        private int start;
        private int length;
        // How many codes are taken, so also the place of the one that is not.
        private int at;
        private final Web web;

        TextReader(Sheet source, Web into) {
            row = source;
            start = 0;
            length = 0;
            at = 0;
            web = into;
        }

        int firstFault(Sheet source, int i, int n) {
            row = source;
            start = i;
            length = n;
            at = 0;
            web.clear();
            boolean whole = isTaken(BEGIN) && areThingsRead() && areReferencesRead() && at == length;
            return whole ? TAKEN : at;
        }

        private boolean areThingsRead() {
            for (int k = 0; k < MOST_THINGS; k++) {
                if (k > 0 && codeHere() != SEMICOLON) {
                    return true;
                }
                if (!isThingRead()) {
                    return false;
                }
            }
            return true;
        }

        private boolean areReferencesRead() {
            for (int k = 0; k < MOST_REFERENCES && at < length; k++) {
                if (!isReferenceRead()) {
                    return false;
                }
            }
            return true;
        }

        private boolean isThingRead() {
            if (!isTaken(SEMICOLON)) {
                return false;
            }
            int kind = kindHere();
            if (kind == NONE) {
                return false;
            }
            at++;
            int owner = ownerHere();
            if (owner == NONE) {
                return false;
            }
            at++;
            web.addThing(kind, owner);
            return true;
        }

        private boolean isReferenceRead() {
            if (!isTaken(COMMA)) {
                return false;
            }
            int whose = ownerHere();
            if (whose == NONE) {
                return false;
            }
            at++;
            int target = codeHere() - DIGIT_ZERO;
            if (!web.isThing(target) || target == whose || web.find(whose, target) != NONE) {
                return false;
            }
            at++;
            web.addReference(whose, target);
            return true;
        }

        private boolean isTaken(int code) {
            if (codeHere() != code) {
                return false;
            }
            at++;
            return true;
        }

        private int codeHere() {
            return at < length ? row.valueAt(start + at) : END;
        }

        private int kindHere() {
            switch (codeHere()) {
                case PLAIN_LETTER: return PLAIN;
                case GUARDED_LETTER: return GUARDED;
                case DOUBLE_LETTER: return DOUBLE;
                default: return NONE;
            }
        }

        /** The world or a thing that is told already. */
        private int ownerHere() {
            int code = codeHere();
            if (code == WORLD_LETTER) {
                return WORLD;
            }
            return web.isThing(code - DIGIT_ZERO) ? code - DIGIT_ZERO : NONE;
        }
    }
}
