/**
 * Cords wound about nails, laws of when a picture shall fall, and what follows from both.
 * The document ../shared/DOC.md says what each call does; its words are used here.
 *
 * A turn is held as 2 times its nail and its way; a set of nails as bits; sets of sets as bits
 * of the numbers of these.
 */
public final class AnyNail {
    public static final int NONE = -1, BAD = -2, STATE = -3, FULL = -4;
    public static final long NO = Long.MIN_VALUE;

    private static final int NOTHING = -5, OTHER_KIND = -6, AT_FAULT = -10;

    private static final int NAILS_MOST = 4, CORDS_MOST = 5, LAWS_MOST = 5, SEEN_MOST = 8;
    private static final int TURNS_MOST = 48, TAPE_MOST = 100, TRACE_MOST = 20;
    private static final int PLACE_MOST = 99, WEAK_MOST = 10, NUMBER_MOST = 9, SET_MOST = 15;
    private static final int SIGN_MOST = 127, SHORT_MOST = 5, DAYS_MOST = 3;

    private static final int CORD = 0, ROUND = 1, ROUGH = 2, HEAVY = 3, TIED = 4, SLIPPING = 5, TOLD = 6;
    private static final int KINDS = 7;
    /** The kind above each kind; -1: there is none. */
    private static final int[] ABOVE = {-1, 0, 0, 0, 1, 2, 3};

    private static final int WINDS = 0, HANGS = 1, TELLS = 2, ACTS = 3;
    /** The body that a kind itself has of an act, at 3 times the kind and the act; 0: none. */
    private static final int[] BODIES = {
        1, 2, 3,
        11, 0, 0,
        0, 21, 0,
        0, 0, 31,
        0, 0, 41,
        51, 0, 0,
        0, 61, 0,
    };
    /** Bodies that stand open at once stay far below this. */
    private static final int DEPTH_MOST = 20;

    private final Board board = new Board();
    private final Board kept = new Board();
    private boolean hasKept;
    private final LawReader reader = new LawReader();
    private final int[] traced = new int[TRACE_MOST];
    private int ran;
    /** Rows to work in: made once, as a call makes none. */
    private final Row left = new Row();
    private final Row rowA = new Row();
    private final Row rowB = new Row();

    public AnyNail() {
    }

    // ---- nails, cords, laws

    public int nails(int n) {
        if (n < 1 || n > NAILS_MOST) {
            return BAD;
        }
        if (board.isWoundFrom(n)) {
            return STATE;
        }
        int before = board.nailCount;
        board.nailCount = n;
        return before;
    }

    public int nail(int nail, int what, int n) {
        if (!board.hasNail(nail) || what < 0 || what > 1) {
            return NONE;
        }
        if (n < 0 || n > (what == 0 ? PLACE_MOST : WEAK_MOST)) {
            return BAD;
        }
        int[] row = what == 0 ? board.place : board.weak;
        int before = row[nail];
        row[nail] = n;
        return before;
    }

    public int cord(int kind, int v) {
        if (kind < 0 || kind >= KINDS) {
            return NONE;
        }
        if (v < 0 || v > NUMBER_MOST) {
            return BAD;
        }
        return board.addCord(kind, v) ? board.cordCount - 1 : FULL;
    }

    public int turn(int cord, int nail, int way) {
        Cord c = board.cordAt(cord);
        if (c == null) {
            return NONE;
        }
        // No turn comes then, so the way is not asked for.
        if (nail == -1) {
            c.row.clear();
            return 0;
        }
        if (!board.hasNail(nail)) {
            return NONE;
        }
        if (way < 0 || way > 1) {
            return BAD;
        }
        if (c.row.size >= TURNS_MOST) {
            return FULL;
        }
        c.row.add(2 * nail + way);
        return c.row.size;
    }

    public int weave(int cord, int set) {
        Cord c = board.cordAt(cord);
        if (c == null) {
            return NONE;
        }
        if (set < 1 || !board.hasSet(set)) {
            return BAD;
        }
        c.row.clear();
        for (int nail = 0; nail < board.nailCount; nail++) {
            if (hasBit(set, nail)) {
                c.row.weaveIn(nail);
            }
        }
        return c.row.size;
    }

    public int of(int cord, int what) {
        Cord c = board.cordAt(cord);
        if (c == null) {
            return NONE;
        }
        if (what >= 200) {
            left.takeLeft(c.row, 0);
            return left.turnAt(what - 200);
        }
        if (what >= 100) {
            return c.row.turnAt(what - 100);
        }
        switch (what) {
            case 0:
                return c.kind;
            case 1:
                return c.v;
            case 2:
                return c.row.size;
            case 3:
                left.takeLeft(c.row, 0);
                return left.size;
            case 4:
                return setsOf(c);
            case 5:
                return leastOf(setsOf(c));
            case 6:
                return inchesOf(c.row);
            default:
                return NONE;
        }
    }

    public int set(int cord, int set, boolean falls) {
        Cord c = board.cordAt(cord);
        if (c == null) {
            return NONE;
        }
        if (set < 0 || set > SET_MOST) {
            return BAD;
        }
        if (c.kind != TOLD) {
            return STATE;
        }
        int before = hasBit(c.told, set) ? 1 : 0;
        c.told = falls ? c.told | 1 << set : c.told & ~(1 << set);
        return before;
    }

    public int feed(int sign) {
        if (sign < 0 || sign > SIGN_MOST) {
            return BAD;
        }
        return board.addSign(sign) ? board.tapeSize : FULL;
    }

    public int law() {
        if (board.lawCount >= LAWS_MOST) {
            return FULL;
        }
        boolean isLaw = reader.isLaw(board.tape, board.tapeSize);
        board.tapeSize = 0;
        if (!isLaw) {
            return AT_FAULT - reader.at;
        }
        board.addLaw(reader.sets);
        return board.lawCount - 1;
    }

    public int sets(int law) {
        return board.hasLaw(law) ? board.setsOfLaw(law) : NONE;
    }

    // ---- what falls

    public int falls(int cord, int set) {
        Cord c = board.cordAt(cord);
        if (c == null) {
            return NONE;
        }
        if (!board.hasSet(set)) {
            return BAD;
        }
        return fallsBy(c, c.row, set) ? 1 : 0;
    }

    public int keeps(int cord, int law) {
        Cord c = board.cordAt(cord);
        if (c == null || !board.hasLaw(law)) {
            return NONE;
        }
        int apart = setsOf(c) ^ board.setsOfLaw(law);
        for (int set = 0; set < board.setCount(); set++) {
            if (hasBit(apart, set)) {
                return set;
            }
        }
        return NOTHING;
    }

    public int shortest(int law, int m, int k) {
        if (!board.hasLaw(law) || k < -1 || k >= SHORT_MOST) {
            return NONE;
        }
        if (m < 0 || m > SHORT_MOST) {
            return BAD;
        }
        if (!windShortest(board.setsOfLaw(law), m)) {
            return NOTHING;
        }
        if (k == -1) {
            return rowA.size;
        }
        return k < rowA.size ? rowA.turnAt(k) : NOTHING;
    }

    public int mend(int cord, int law) {
        Cord c = board.cordAt(cord);
        if (c == null || !board.hasLaw(law)) {
            return NONE;
        }
        int want = board.setsOfLaw(law);
        if (fallsJustBy(c, c.row, want)) {
            return 0;
        }
        if (c.kind == TOLD) {
            return NOTHING;
        }
        int place = mendByTaking(c, want);
        return place >= 0 ? 100 + place : mendByPutting(c, want);
    }

    public int alike(int one, int other, int what) {
        Cord c = board.cordAt(one);
        Cord d = board.cordAt(other);
        if (c == null || d == null || what < 0 || what > 2) {
            return NONE;
        }
        return areAlike(c.row, d.row, what) ? 1 : 0;
    }

    public int game(int cord, int what) {
        Cord c = board.cordAt(cord);
        if (c == null || what < 0 || what > 1) {
            return NONE;
        }
        int sets = setsOf(c);
        if (hasBit(sets, 0)) {
            return what == 0 ? 1 : NOTHING;
        }
        int nail = winningPull(sets, winningSets(sets), 0);
        if (what == 0) {
            return nail >= 0 ? 1 : 0;
        }
        return nail >= 0 ? nail : NOTHING;
    }

    // ---- seen, odds

    public int see(int set, boolean fell) {
        if (set == -1) {
            board.seenCount = 0;
            return 0;
        }
        if (!board.hasSet(set)) {
            return BAD;
        }
        return board.addSeen(set, fell) ? board.seenCount : FULL;
    }

    public int fits() {
        int fitting = 0;
        for (int i = 0; i < board.cordCount; i++) {
            Cord c = board.cordAt(i);
            if (c != null && fitsSeen(c)) {
                fitting |= 1 << i;
            }
        }
        return fitting;
    }

    public int tries() {
        int fitting = fits();
        if (fitting == 0) {
            return NOTHING;
        }
        int best = 0;
        int bestApart = CORDS_MOST + 1;
        for (int set = 0; set < board.setCount(); set++) {
            int apart = fallAndHangApart(fitting, set);
            if (apart < bestApart) {
                best = set;
                bestApart = apart;
            }
        }
        return best;
    }

    public long odds(int cord, int part) {
        Cord c = board.cordAt(cord);
        if (c == null || part < 0 || part > 1) {
            return NO;
        }
        return likely(c, true, 1, part);
    }

    public long hangs(int cord, int d, int part) {
        Cord c = board.cordAt(cord);
        if (c == null || d < 0 || d > DAYS_MOST || part < 0 || part > 1) {
            return NO;
        }
        return likely(c, false, d, part);
    }

    public int told(int what) {
        if (what == 0) {
            return board.nailCount;
        }
        if (what >= 10 && board.hasNail(what - 10)) {
            return board.place[what - 10];
        }
        if (what >= 20 && board.hasNail(what - 20)) {
            return board.weak[what - 20];
        }
        return NONE;
    }

    // ---- acts, the image

    public int act(int cord, int act, int x) {
        ran = 0;
        Cord c = board.cordAt(cord);
        if (c == null || act < 0 || act >= ACTS) {
            return 0;
        }
        return runBody(c, c.kind, act, x, 0);
    }

    public int trace(int i) {
        return i >= 0 && i < ran && i < TRACE_MOST ? traced[i] : NONE;
    }

    public int as(int cord, int k) {
        Cord c = board.cordAt(cord);
        if (c == null || k < 0 || k >= KINDS) {
            return NONE;
        }
        int kind = c.kind;
        for (int i = 0; i < KINDS && kind != k; i++) {
            kind = kindAbove(kind);
        }
        return kind == k ? c.v : OTHER_KIND;
    }

    public int image() {
        kept.copyFrom(board);
        hasKept = true;
        return board.cordCount;
    }

    public int undo() {
        if (!hasKept) {
            return STATE;
        }
        board.copyFrom(kept);
        return board.cordCount;
    }

    public int count(int what) {
        switch (what) {
            case 0:
                return board.cordCount;
            case 1:
                return board.lawCount;
            case 2:
                return board.seenCount;
            case 3:
                return board.tapeSize;
            case 4:
                return ran;
            default:
                return NONE;
        }
    }

    // ---- sets

    private static boolean hasBit(int bits, int place) {
        return (bits >> place & 1) != 0;
    }

    /** Whether a cord of this kind and number would fall by a set, if it were wound as the row. */
    private boolean fallsBy(Cord c, Row row, int set) {
        int pulled = set & board.allNails();
        int own = 1 << board.nailOf(c.v);
        if (c.kind == TOLD) {
            return hasBit(c.told, pulled);
        }
        if (c.kind == TIED && (pulled & own) == 0) {
            return false;
        }
        if (c.kind == HEAVY || (c.kind == SLIPPING && (pulled & ~own) != 0)) {
            pulled |= own;
        }
        left.takeLeft(row, pulled);
        return left.size <= (c.kind == ROUGH || c.kind == SLIPPING ? c.v % 3 : 0);
    }

    private int setsOf(Cord c) {
        int sets = 0;
        for (int set = 0; set < board.setCount(); set++) {
            if (fallsBy(c, c.row, set)) {
                sets |= 1 << set;
            }
        }
        return sets;
    }

    private boolean fallsJustBy(Cord c, Row row, int sets) {
        for (int set = 0; set < board.setCount(); set++) {
            if (fallsBy(c, row, set) != hasBit(sets, set)) {
                return false;
            }
        }
        return true;
    }

    private int leastOf(int sets) {
        int least = 0;
        for (int set = 0; set < board.setCount(); set++) {
            if (hasBit(sets, set) && !hasPartOf(sets, set)) {
                least |= 1 << set;
            }
        }
        return least;
    }

    /** Whether one of the sets is a part of this set and less than it. */
    private static boolean hasPartOf(int sets, int set) {
        for (int part = 0; part < set; part++) {
            if (hasBit(sets, part) && (part & set) == part) {
                return true;
            }
        }
        return false;
    }

    private int inchesOf(Row row) {
        int inches = 2 * row.size;
        for (int i = 1; i < row.size; i++) {
            inches += Math.abs(placeOf(row.turnAt(i)) - placeOf(row.turnAt(i - 1)));
        }
        return inches;
    }

    private int placeOf(int turn) {
        int nail = turn >> 1;
        return board.hasNail(nail) ? board.place[nail] : 0;
    }

    // ---- the shortest winding

    /** Puts into row A the shortest row by which a plain cord falls just by these sets. */
    private boolean windShortest(int sets, int m) {
        if (!isOfSomeRow(sets)) {
            return false;
        }
        for (int size = 0; size <= m; size++) {
            rowA.clear();
            if (windOn(sets, size)) {
                return true;
            }
        }
        return false;
    }

    /** A plain cord falls by all nails, and what falls by a set falls by a greater one, too. */
    private boolean isOfSomeRow(int sets) {
        for (int set = 0; set < board.setCount(); set++) {
            for (int nail = 0; nail < board.nailCount; nail++) {
                if (hasBit(sets, set) && !hasBit(sets, set | 1 << nail)) {
                    return false;
                }
            }
        }
        return hasBit(sets, board.allNails());
    }

    /** Whether row A can be wound on by just so many turns; if so, the first way it can, is in it. */
    private boolean windOn(int sets, int more) {
        if (!canComeTo(sets, more)) {
            return false;
        }
        if (more <= 0) {
            return true;
        }
        for (int turn = 0; turn < 2 * board.nailCount; turn++) {
            // A turn that undoes the last one leaves a row that was looked at when it was shorter.
            if (rowA.size > 0 && rowA.turnAt(rowA.size - 1) == (turn ^ 1)) {
                continue;
            }
            rowA.add(turn);
            if (windOn(sets, more - 1)) {
                return true;
            }
            rowA.dropLast();
        }
        return false;
    }

    /** What is left by a set gets less by one turn at most with each turn that comes. */
    private boolean canComeTo(int sets, int more) {
        for (int set = 0; set < board.setCount(); set++) {
            left.takeLeft(rowA, set);
            if (hasBit(sets, set) ? left.size > more : more <= 0 && left.size == 0) {
                return false;
            }
        }
        return true;
    }

    // ---- mending

    private int mendByTaking(Cord c, int want) {
        for (int place = 0; place < c.row.size; place++) {
            rowA.copyWithout(c.row, place);
            if (fallsJustBy(c, rowA, want)) {
                return place;
            }
        }
        return NOTHING;
    }

    private int mendByPutting(Cord c, int want) {
        for (int place = 0; place <= c.row.size; place++) {
            for (int turn = 0; turn < 2 * board.nailCount; turn++) {
                rowA.copyWith(c.row, place, turn);
                if (fallsJustBy(c, rowA, want)) {
                    return 1000 + 10 * place + turn;
                }
            }
        }
        return NOTHING;
    }

    // ---- alike

    private boolean areAlike(Row first, Row second, int what) {
        rowA.takeLeft(first, 0);
        rowB.takeLeft(second, 0);
        if (what == 1) {
            rowA.closeUp();
            rowB.closeUp();
            return rowA.isRolled(rowB);
        }
        if (what == 2) {
            rowA.turnBack();
        }
        return rowA.isSameFrom(rowB, 0);
    }

    // ---- the game

    /** The sets, pulled and hanging, from which the one whose turn it is can win. */
    private int winningSets(int sets) {
        int wins = 0;
        for (int set = board.allNails() - 1; set >= 0; set--) {
            if (winningPull(sets, wins, set) >= 0) {
                wins |= 1 << set;
            }
        }
        return wins;
    }

    private int winningPull(int sets, int wins, int pulled) {
        for (int nail = 0; nail < board.nailCount; nail++) {
            int then = pulled | 1 << nail;
            if (then != pulled && !hasBit(sets, then) && !hasBit(wins, then)) {
                return nail;
            }
        }
        return NOTHING;
    }

    // ---- seen

    private boolean fitsSeen(Cord c) {
        for (int i = 0; i < board.seenCount && i < SEEN_MOST; i++) {
            int seen = board.seen[i];
            if (fallsBy(c, c.row, seen >> 1) != hasBit(seen, 0)) {
                return false;
            }
        }
        return true;
    }

    private int fallAndHangApart(int fitting, int set) {
        int apart = 0;
        for (int i = 0; i < board.cordCount; i++) {
            Cord c = board.cordAt(i);
            if (c != null && hasBit(fitting, i)) {
                apart += fallsBy(c, c.row, set) ? 1 : -1;
            }
        }
        return Math.abs(apart);
    }

    // ---- odds

    /** How likely the cord falls, or hangs, by the nails that have given way behind so many days. */
    private long likely(Cord c, boolean falls, int days, int part) {
        long above = 0;
        for (int set = 0; set < board.setCount(); set++) {
            if (fallsBy(c, c.row, set) == falls) {
                above += chanceOf(set, days);
            }
        }
        long below = power(power(10, days), board.nailCount);
        long common = commonOf(above, below);
        if (common <= 0) {
            return NO;
        }
        return (part == 0 ? above : below) / common;
    }

    /** In how many of all cases (10 to the power of the days, for each nail) just this set is gone. */
    private long chanceOf(int set, int days) {
        long all = power(10, days);
        long chance = 1;
        for (int nail = 0; nail < board.nailCount && nail < NAILS_MOST; nail++) {
            long there = power(10 - board.weak[nail], days);
            chance *= hasBit(set, nail) ? all - there : there;
        }
        return chance;
    }

    private static long power(long base, int times) {
        long result = 1;
        for (int i = 0; i < times; i++) {
            result *= base;
        }
        return result;
    }

    /** The greatest number that divides both. */
    private static long commonOf(long a, long b) {
        long one = a;
        long other = b;
        for (int i = 0; i < 1000 && other != 0; i++) {
            long rest = one % other;
            one = other;
            other = rest;
        }
        return one;
    }

    // ---- acts

    private static int kindAbove(int kind) {
        return kind >= 0 && kind < KINDS ? ABOVE[kind] : -1;
    }

    private static int bodyOf(int kind, int act) {
        boolean isThere = kind >= 0 && kind < KINDS && act >= 0 && act < ACTS;
        return isThere ? BODIES[ACTS * kind + act] : 0;
    }

    private void noteBody(int body) {
        if (ran < TRACE_MOST) {
            traced[ran] = body;
        }
        ran++;
    }

    /** Runs the body of an act that stands in the kind, or else in the next one above that has one. */
    private int runBody(Cord c, int kind, int act, int x, int depth) {
        if (depth > DEPTH_MOST) {
            return 0;
        }
        int at = kind;
        for (int i = 0; i < KINDS && at >= 0 && bodyOf(at, act) == 0; i++) {
            at = kindAbove(at);
        }
        int body = bodyOf(at, act);
        int above = kindAbove(at);
        int next = depth + 1;
        noteBody(body);
        switch (body) {
            case 1:
                return x + c.number;
            case 2:
                return runBody(c, c.kind, WINDS, x, next) - c.v;
            case 3:
                return runBody(c, c.kind, HANGS, x, next) * 2;
            case 11:
                return runBody(c, above, WINDS, x * 3, next);
            case 21:
                return -runBody(c, above, HANGS, x, next);
            case 31:
                return runBody(c, above, TELLS, x, next) ^ 7;
            case 41:
                return runBody(c, above, TELLS, x - 1, next) + runBody(c, c.kind, WINDS, 2, next);
            case 51:
                return runBody(c, above, WINDS, x, next) ^ c.number;
            case 61:
                return runBody(c, above, HANGS, x, next) + c.v;
            default:
                return 0;
        }
    }

    /** A row of turns. It has room for one more than a cord may have, as mending puts one in. */
    private static final class Row {
        private final int[] turns = new int[TURNS_MOST + 1];
        private int size;

        private void clear() {
            size = 0;
        }

        private void add(int turn) {
            if (size >= 0 && size < turns.length) {
                turns[size] = turn;
                size++;
            }
        }

        private void dropLast() {
            if (size > 0) {
                size--;
            }
        }

        private int turnAt(int i) {
            return i >= 0 && i < size && i < turns.length ? turns[i] : NONE;
        }

        private void copyFrom(Row other) {
            size = 0;
            for (int i = 0; i < other.size; i++) {
                add(other.turnAt(i));
            }
        }

        private void copyWithout(Row other, int place) {
            size = 0;
            for (int i = 0; i < other.size; i++) {
                if (i != place) {
                    add(other.turnAt(i));
                }
            }
        }

        private void copyWith(Row other, int place, int turn) {
            size = 0;
            for (int i = 0; i <= other.size; i++) {
                if (i == place) {
                    add(turn);
                }
                if (i < other.size) {
                    add(other.turnAt(i));
                }
            }
        }

        /** Becomes what is left of another row with a set of nails pulled. */
        private void takeLeft(Row other, int pulled) {
            size = 0;
            for (int i = 0; i < other.size; i++) {
                int turn = other.turnAt(i);
                if (hasBit(pulled, turn >> 1)) {
                    continue;
                }
                if (size > 0 && turnAt(size - 1) == (turn ^ 1)) {
                    dropLast();
                } else {
                    add(turn);
                }
            }
        }

        /** From W: W, the nail this way, W from its end the other way, the nail that way. */
        private void weaveIn(int nail) {
            int before = size;
            add(2 * nail);
            if (before == 0) {
                return;
            }
            for (int i = before - 1; i >= 0; i--) {
                add(turnAt(i) ^ 1);
            }
            add(2 * nail + 1);
        }

        /** Takes out the first and the last turn as long as these undo one another. */
        private void closeUp() {
            int from = 0;
            int to = size - 1;
            while (from < to && turnAt(from) == (turnAt(to) ^ 1)) {
                from++;
                to--;
            }
            int rest = to - from + 1;
            for (int i = 0; i < rest && from + i < turns.length; i++) {
                turns[i] = turns[from + i];
            }
            size = rest;
        }

        /** The row from its end, each turn the other way. */
        private void turnBack() {
            int from = 0;
            int to = size - 1;
            while (from <= to && to < turns.length) {
                int turn = turns[from];
                turns[from] = turns[to] ^ 1;
                turns[to] = turn ^ 1;
                from++;
                to--;
            }
        }

        /** Whether this row is the other one, so many of that one's first turns put behind its last. */
        private boolean isSameFrom(Row other, int first) {
            if (size != other.size) {
                return false;
            }
            for (int i = 0; i < size; i++) {
                int place = first + i < size ? first + i : first + i - size;
                if (turnAt(i) != other.turnAt(place)) {
                    return false;
                }
            }
            return true;
        }

        private boolean isRolled(Row other) {
            if (isSameFrom(other, 0)) {
                return true;
            }
            for (int first = 1; first < size; first++) {
                if (isSameFrom(other, first)) {
                    return true;
                }
            }
            return false;
        }
    }

    private static final class Cord {
        private final int number;
        private int kind;
        private int v;
        private int told;
        private final Row row = new Row();

        private Cord(int number) {
            this.number = number;
        }

        private void begin(int kind, int v) {
            this.kind = kind;
            this.v = v;
            told = 0;
            row.clear();
        }

        private void copyFrom(Cord other) {
            kind = other.kind;
            v = other.v;
            told = other.told;
            row.copyFrom(other.row);
        }
    }

    /** All that an image keeps. */
    private static final class Board {
        private int nailCount = 3;
        private final int[] place = new int[NAILS_MOST];
        private final int[] weak = new int[NAILS_MOST];
        private final Cord[] cords = new Cord[CORDS_MOST];
        private int cordCount;
        /** Of each law by which sets of four nails it holds; fewer nails need a part of these bits. */
        private final int[] lawSets = new int[LAWS_MOST];
        private int lawCount;
        private final int[] tape = new int[TAPE_MOST];
        private int tapeSize;
        /** 2 times the set, and 1 if it fell. */
        private final int[] seen = new int[SEEN_MOST];
        private int seenCount;

        private Board() {
            for (int i = 0; i < NAILS_MOST; i++) {
                weak[i] = 1;
            }
            for (int i = 0; i < CORDS_MOST; i++) {
                cords[i] = new Cord(i);
            }
        }

        private void copyFrom(Board other) {
            nailCount = other.nailCount;
            System.arraycopy(other.place, 0, place, 0, NAILS_MOST);
            System.arraycopy(other.weak, 0, weak, 0, NAILS_MOST);
            cordCount = other.cordCount;
            for (int i = 0; i < cordCount; i++) {
                Cord mine = cordAt(i);
                Cord theirs = other.cordAt(i);
                if (mine != null && theirs != null) {
                    mine.copyFrom(theirs);
                }
            }
            lawCount = other.lawCount;
            System.arraycopy(other.lawSets, 0, lawSets, 0, LAWS_MOST);
            tapeSize = other.tapeSize;
            System.arraycopy(other.tape, 0, tape, 0, TAPE_MOST);
            seenCount = other.seenCount;
            System.arraycopy(other.seen, 0, seen, 0, SEEN_MOST);
        }

        private boolean hasNail(int nail) {
            return nail >= 0 && nail < nailCount && nail < NAILS_MOST;
        }

        private int allNails() {
            return (1 << nailCount) - 1;
        }

        private boolean hasSet(int set) {
            return set >= 0 && set <= allNails();
        }

        private int setCount() {
            return 1 << nailCount;
        }

        /** The nail of which a cord's number tells. */
        private int nailOf(int v) {
            return nailCount > 0 ? v % nailCount : 0;
        }

        private Cord cordAt(int cord) {
            return cord >= 0 && cord < cordCount && cord < CORDS_MOST ? cords[cord] : null;
        }

        private boolean addCord(int kind, int v) {
            if (cordCount < 0 || cordCount >= CORDS_MOST) {
                return false;
            }
            Cord c = cords[cordCount];
            if (c == null) {
                return false;
            }
            c.begin(kind, v);
            cordCount++;
            return true;
        }

        /** Whether a cord has a turn about this nail or one behind it. */
        private boolean isWoundFrom(int nail) {
            for (int i = 0; i < cordCount; i++) {
                Cord c = cordAt(i);
                for (int k = 0; c != null && k < c.row.size; k++) {
                    if (c.row.turnAt(k) >= 2 * nail) {
                        return true;
                    }
                }
            }
            return false;
        }

        private boolean hasLaw(int law) {
            return law >= 0 && law < lawCount && law < LAWS_MOST;
        }

        private int setsOfLaw(int law) {
            int allSets = (1 << setCount()) - 1;
            return hasLaw(law) ? lawSets[law] & allSets : 0;
        }

        private void addLaw(int sets) {
            if (lawCount >= 0 && lawCount < LAWS_MOST) {
                lawSets[lawCount] = sets;
                lawCount++;
            }
        }

        private boolean addSign(int sign) {
            if (tapeSize < 0 || tapeSize >= TAPE_MOST) {
                return false;
            }
            tape[tapeSize] = sign;
            tapeSize++;
            return true;
        }

        private boolean addSeen(int set, boolean fell) {
            if (seenCount < 0 || seenCount >= SEEN_MOST) {
                return false;
            }
            seen[seenCount] = 2 * set + (fell ? 1 : 0);
            seenCount++;
            return true;
        }
    }

    /** Reads a law from a tape: each part of it comes to the sets of four nails by which it holds. */
    private static final class LawReader {
        private static final int ALL_SETS = 0xFFFF, OPEN_MOST = 5;

        private int[] tape;
        private int size;
        /** The place of the next sign; behind a fault that of the fault. */
        private int at;
        private boolean isBad;
        private int sets;

        private boolean isLaw(int[] tape, int size) {
            this.tape = tape;
            this.size = size;
            at = 0;
            isBad = false;
            sets = readEither(0);
            if (at < size) {
                isBad = true;
            }
            return !isBad;
        }

        /** The next sign; -1: there is none, or none is asked for behind a fault. */
        private int next() {
            boolean isThere = !isBad && tape != null && at >= 0 && at < size && at < tape.length;
            return isThere ? tape[at] : -1;
        }

        private int fault() {
            isBad = true;
            return 0;
        }

        /** E. */
        private int readEither(int open) {
            int result = readBoth(open);
            for (int i = 0; i < TAPE_MOST && next() == '|'; i++) {
                at++;
                result |= readBoth(open);
            }
            return result;
        }

        /** T. */
        private int readBoth(int open) {
            int result = readOne(open);
            for (int i = 0; i < TAPE_MOST && next() == '&'; i++) {
                at++;
                result &= readOne(open);
            }
            return result;
        }

        /** F, so many of ! and ( being open. */
        private int readOne(int open) {
            int sign = next();
            if (sign != '!' && sign != '(') {
                return readTest();
            }
            if (open >= OPEN_MOST) {
                return fault();
            }
            at++;
            if (sign == '!') {
                return ALL_SETS ^ readOne(open + 1);
            }
            int result = readEither(open + 1);
            if (next() != ')') {
                return fault();
            }
            at++;
            return result;
        }

        private int readTest() {
            int name = next();
            if (name != 'n' && (name < 'a' || name > 'd')) {
                return fault();
            }
            at++;
            int sign = next();
            if (sign != '<' && sign != '=' && sign != '>') {
                return fault();
            }
            at++;
            if (!isDigit(next())) {
                return fault();
            }
            return setsOfTest(name, sign, readNumber());
        }

        private int readNumber() {
            int number = next() - '0';
            at++;
            if (number > 0 && isDigit(next())) {
                number = 10 * number + next() - '0';
                at++;
            }
            return number;
        }

        private static boolean isDigit(int sign) {
            return sign >= '0' && sign <= '9';
        }

        private static int setsOfTest(int name, int sign, int number) {
            int result = 0;
            for (int set = 0; set <= SET_MOST; set++) {
                int value = name == 'n' ? Integer.bitCount(set) : set >> name - 'a' & 1;
                boolean holds = sign == '<' ? value < number : sign == '=' ? value == number : value > number;
                if (holds) {
                    result |= 1 << set;
                }
            }
            return result;
        }
    }
}
