/** Threads wound round twelve nails in a ring; DOC.md tells what each call answers. */
public final class NailThreads {
    public static final int UNKNOWN = -1, OUTSIDE = -2, STATE = -3, FULL = -4, NONE = -9;

    private static final int NAILS = 12;
    private static final int MOST_THREADS = 4;
    private static final int MOST_OF_ONE = 12;
    private static final int MOST_STRETCHES = 48;
    private static final int MOST_LETTERS = 48;
    private static final int MOST_ACTS = 14;
    private static final int MOST_SEEN = 6;
    private static final int MOST_YEARS = 30;
    private static final int MOST_DOINGS = 4;
    private static final int SLOTS = 2;
    private static final int NOWHERE = -1;

    private final Text text;
    private final Board now;
    /** Where acts are only tried: no answer may hang on what was left here. */
    private final Board trial;
    private final History acts;
    private final Shelf shelf;
    private final Seen seen;
    private final Web web;
    private final Rests pairs;
    private final Chances chances;
    private long theSeed;

    public NailThreads() {
        text = new Text();
        now = new Board();
        trial = new Board();
        acts = new History();
        shelf = new Shelf();
        seen = new Seen();
        web = new Web();
        pairs = new Rests();
        chances = new Chances();
        theSeed = 0L;
    }

    // ---- the board

    public int write(int letter) {
        if (isOutside(letter, 0, 255)) {
            return OUTSIDE;
        }
        return text.add(letter) ? text.length() : FULL;
    }

    public int wipe() {
        int was = text.length();
        text.clear();
        return was;
    }

    public int fault() {
        return text.readOnto(trial);
    }

    public int board() {
        if (text.readOnto(trial) != NONE) {
            return STATE;
        }
        now.becomeLike(trial);
        acts.clear();
        shelf.clear();
        return now.threads();
    }

    public int thread(int thread, int what) {
        if (!now.hasThread(thread)) {
            return UNKNOWN;
        }
        switch (what) {
            case 0: return now.nailOf(thread);
            case 1: return now.kindOf(thread);
            case 2: return now.stretchesOf(thread);
            case 3: return now.lengthOf(thread);
            case 4: return now.openNails(thread);
            case 5: return now.mayUnwind(thread) ? 1 : 0;
            default: return OUTSIDE;
        }
    }

    public int stretch(int stretch, int what) {
        if (!now.hasStretch(stretch)) {
            return UNKNOWN;
        }
        switch (what) {
            case 0: return now.threadAt(stretch);
            case 1: return now.fromAt(stretch);
            case 2: return now.toAt(stretch);
            case 3: return now.crossingFrom(0, stretch);
            case 4: return now.crossingFrom(stretch + 1, stretch);
            case 5: return now.aboveOf(stretch);
            default: return OUTSIDE;
        }
    }

    // ---- acts

    public int wind(int thread, int nail) {
        if (!now.hasThread(thread) || isOutside(nail, 0, NAILS - 1)) {
            return UNKNOWN;
        }
        if (!now.mayWind(thread, nail)) {
            return STATE;
        }
        acts.add(now);
        return now.windOn(thread, nail);
    }

    public int unwind(int thread) {
        if (!now.hasThread(thread)) {
            return UNKNOWN;
        }
        if (!now.mayUnwind(thread)) {
            return STATE;
        }
        acts.add(now);
        return now.unwindLast(thread);
    }

    public int cut(int thread) {
        if (!now.hasThread(thread)) {
            return UNKNOWN;
        }
        if (!now.mayCut(thread)) {
            return STATE;
        }
        acts.add(now);
        return now.cutOff(thread);
    }

    public int turn() {
        acts.add(now);
        now.turnByOne();
        return now.size();
    }

    public int behind() {
        acts.add(now);
        now.turnOver();
        return now.size();
    }

    public int undo() {
        return acts.takeBack(now) ? acts.size() : STATE;
    }

    // ---- looks

    public int crossings(int one, int other) {
        if (!now.hasThread(one) || !now.hasThread(other)) {
            return UNKNOWN;
        }
        return now.crossingsOf(one, other);
    }

    public int parts() {
        return web.partsOf(now);
    }

    public int strokes() {
        return web.strokesOf(now);
    }

    public int next(int thread, int what) {
        if (!now.hasThread(thread)) {
            return UNKNOWN;
        }
        if (isOutside(what, 0, 1)) {
            return OUTSIDE;
        }
        int nail = now.bestNail(thread);
        if (nail == NOWHERE) {
            return NONE;
        }
        return what == 0 ? nail : now.crossedBetween(now.nailOf(thread), nail);
    }

    public int star(int thread, int k, int n, int what) {
        if (!now.hasThread(thread)) {
            return UNKNOWN;
        }
        if (isOutside(k, 1, NAILS - 1) || isOutside(n, 0, MOST_OF_ONE) || isOutside(what, 0, 2)) {
            return OUTSIDE;
        }
        trial.becomeLike(now);
        int crossed = trial.windStar(thread, k, n);
        switch (what) {
            case 0: return trial.stretchesOf(thread) - now.stretchesOf(thread);
            case 1: return trial.nailOf(thread);
            default: return crossed;
        }
    }

    public int judge(int n, long row) {
        if (isOutside(n, 1, MOST_DOINGS) || Doings.isTooLong(n, row)) {
            return OUTSIDE;
        }
        trial.becomeLike(now);
        return Doings.firstWrong(n, row, trial, web);
    }

    // ---- seen

    public int see(int t, int nail, int was) {
        if (isOutside(nail, 0, NAILS - 1)) {
            return UNKNOWN;
        }
        if (isOutside(t, 0, MOST_OF_ONE) || isOutside(was, 0, 1)) {
            return OUTSIDE;
        }
        return seen.add(t, nail, was) ? seen.size() : FULL;
    }

    public int unsee() {
        int was = seen.size();
        seen.clear();
        return was;
    }

    public int stars(int what) {
        switch (what) {
            case 0: return seen.howMany();
            case 1: return seen.firstStar();
            default: return OUTSIDE;
        }
    }

    // ---- shares, rests, chances

    public int share(int thread, boolean upper) {
        if (!now.hasThread(thread)) {
            return UNKNOWN;
        }
        return Chances.toldFraction(Chances.twiceShare(now, thread), 2, upper);
    }

    public int rests(int one, int other, int what) {
        if (!now.hasThread(one) || !now.hasThread(other)) {
            return UNKNOWN;
        }
        if (one == other || isOutside(what, 0, 1)) {
            return OUTSIDE;
        }
        pairs.tryAll(now, trial, one, other);
        return what == 0 ? pairs.howMany() : pairs.firstPair();
    }

    public int snaps(int v, int x, boolean upper) {
        if (isOutside(v, 0, 99) || isOutside(x, 0, 10)) {
            return OUTSIDE;
        }
        return Chances.toldFraction(chances.weightOfSnaps(now, v, x), Chances.allWeight(now), upper);
    }

    public long seed(long v) {
        long was = theSeed;
        theSeed = v;
        return was;
    }

    public int years(int m) {
        if (isOutside(m, 1, MOST_YEARS)) {
            return OUTSIDE;
        }
        trial.becomeLike(now);
        int together = 0;
        for (int i = 0; i < m; i++) {
            theSeed = Chances.drawnFrom(theSeed);
            Chances.liveYear(trial, theSeed);
            together += trial.allCrossings();
        }
        return together;
    }

    // ---- slots

    public int keep(int slot) {
        if (isOutside(slot, 0, SLOTS - 1)) {
            return UNKNOWN;
        }
        shelf.put(slot, now);
        return now.size();
    }

    public int again(int slot) {
        if (isOutside(slot, 0, SLOTS - 1)) {
            return UNKNOWN;
        }
        if (!shelf.giveBack(slot, now)) {
            return STATE;
        }
        acts.clear();
        return now.size();
    }

    public int count(int what) {
        switch (what) {
            case 0: return text.length();
            case 1: return now.threads();
            case 2: return now.size();
            case 3: return now.allCrossings();
            case 4: return now.endNails();
            case 5: return now.lengthOfAll();
            case 6: return acts.size();
            case 7: return seen.size();
            default: return OUTSIDE;
        }
    }

    private static boolean isOutside(int number, int least, int most) {
        return number < least || number > most;
    }

    /** The ring of nails, without anything wound on it. */
    private static final class Ring {
        /** By the steps from the one to the other: those by the longer way round too. */
        private static final int[] LENGTHS = {0, 5, 10, 14, 17, 19, 20, 19, 17, 14, 10, 5};

        static int stepsOn(int nail, int steps) {
            return Math.floorMod(nail + steps, NAILS);
        }

        static int apart(int one, int other) {
            int way = Math.floorMod(other - one, NAILS);
            return Math.min(way, NAILS - way);
        }

        static int lengthBetween(int one, int other) {
            int steps = one < other ? other - one : one - other;
            return steps < LENGTHS.length ? LENGTHS[steps] : 0;
        }

        static boolean doCross(int a, int b, int c, int d) {
            if (a == c || a == d || b == c || b == d) {
                return false;
            }
            int low = a < b ? a : b;
            int high = a < b ? b : a;
            return (low < c && c < high) != (low < d && d < high);
        }
    }

    /** Threads, and their stretches from the undermost to the uppermost. */
    private static final class Board {
        private static final int ALL = -1;
        private static final int PLAIN = 0;
        private static final int STIFF = 1;
        private static final int GUT = 2;
        private static final int MOST_ELASTIC = 80;

        private final int[] kinds;
        private final int[] nails;
        private final int[] counts;
        /**
         * A stretch is one number: its thread, the nails, and its place along its thread.
         * That place is needed, as the last stretch of a thread may lie undermost when seen from behind.
         */
        private final int[] lying;
        private int threads;
        private int size;
        /** Kept up with each act, as counting all pairs afresh each year is dear. */
        private int crosses;

        Board() {
            kinds = new int[MOST_THREADS];
            nails = new int[MOST_THREADS];
            counts = new int[MOST_THREADS];
            lying = new int[MOST_STRETCHES];
            threads = 0;
            size = 0;
            crosses = 0;
        }

        void clear() {
            threads = 0;
            size = 0;
            crosses = 0;
        }

        void becomeLike(Board other) {
            threads = other.threads;
            size = other.size;
            crosses = other.crosses;
            System.arraycopy(other.kinds, 0, kinds, 0, MOST_THREADS);
            System.arraycopy(other.nails, 0, nails, 0, MOST_THREADS);
            System.arraycopy(other.counts, 0, counts, 0, MOST_THREADS);
            for (int i = 0; i < size; i++) {
                lying[i] = other.lying[i];
            }
        }

        boolean tie(int kind, int nail) {
            if (threads >= MOST_THREADS) {
                return false;
            }
            kinds[threads] = kind;
            nails[threads] = nail;
            counts[threads] = 0;
            threads++;
            return true;
        }

        int threads() {
            return threads;
        }

        int size() {
            return size;
        }

        boolean hasThread(int thread) {
            return thread >= 0 && thread < threads;
        }

        boolean hasStretch(int stretch) {
            return stretch >= 0 && stretch < size;
        }

        int nailOf(int thread) {
            return hasThread(thread) ? nails[thread] : NOWHERE;
        }

        int kindOf(int thread) {
            return hasThread(thread) ? kinds[thread] : NOWHERE;
        }

        int stretchesOf(int thread) {
            return hasThread(thread) ? counts[thread] : 0;
        }

        int threadAt(int stretch) {
            return stretch >= 0 && stretch < size ? lying[stretch] & 15 : NOWHERE;
        }

        int fromAt(int stretch) {
            return stretch >= 0 && stretch < size ? lying[stretch] >> 4 & 15 : NOWHERE;
        }

        int toAt(int stretch) {
            return stretch >= 0 && stretch < size ? lying[stretch] >> 8 & 15 : NOWHERE;
        }

        private int placeAt(int stretch) {
            return stretch >= 0 && stretch < size ? lying[stretch] >> 12 & 15 : NOWHERE;
        }

        private static int packed(int thread, int from, int to, int place) {
            return thread | from << 4 | to << 8 | place << 12;
        }

        int lengthOf(int thread) {
            int together = 0;
            for (int i = 0; i < size; i++) {
                if (threadAt(i) == thread) {
                    together += Ring.lengthBetween(fromAt(i), toAt(i));
                }
            }
            return together;
        }

        int lengthOfAll() {
            int together = 0;
            for (int i = 0; i < size; i++) {
                together += Ring.lengthBetween(fromAt(i), toAt(i));
            }
            return together;
        }

        int endNails() {
            int bits = 0;
            for (int i = 0; i < size; i++) {
                bits |= 1 << fromAt(i) | 1 << toAt(i);
            }
            return bits;
        }

        boolean mayWind(int thread, int nail) {
            if (!hasThread(thread) || isOutside(nail, 0, NAILS - 1)) {
                return false;
            }
            int from = nails[thread];
            if (nail == from || counts[thread] >= MOST_OF_ONE) {
                return false;
            }
            switch (kinds[thread]) {
                case PLAIN: return true;
                case STIFF: return Ring.apart(from, nail) != 1;
                case GUT: return crossed(0, thread, from, nail) == 0;
                default: return Ring.apart(from, nail) != 1
                    && lengthOf(thread) + Ring.lengthBetween(from, nail) <= MOST_ELASTIC;
            }
        }

        int openNails(int thread) {
            int bits = 0;
            for (int nail = 0; nail < NAILS; nail++) {
                if (mayWind(thread, nail)) {
                    bits |= 1 << nail;
                }
            }
            return bits;
        }

        int bestNail(int thread) {
            int best = NOWHERE;
            int most = -1;
            for (int nail = 0; nail < NAILS; nail++) {
                if (mayWind(thread, nail)) {
                    int crossed = crossedBetween(nailOf(thread), nail);
                    if (crossed > most) {
                        best = nail;
                        most = crossed;
                    }
                }
            }
            return best;
        }

        /** How many stretches from the lowest up, of a thread or of ALL, one between two nails crosses. */
        private int crossed(int lowest, int thread, int from, int to) {
            int many = 0;
            for (int i = lowest < 0 ? 0 : lowest; i < size; i++) {
                if ((thread == ALL || threadAt(i) == thread)
                    && Ring.doCross(fromAt(i), toAt(i), from, to)) {
                    many++;
                }
            }
            return many;
        }

        int crossedBetween(int from, int to) {
            return crossed(0, ALL, from, to);
        }

        int crossingFrom(int lowest, int stretch) {
            return crossed(lowest, ALL, fromAt(stretch), toAt(stretch));
        }

        int aboveOf(int stretch) {
            if (!hasStretch(stretch)) {
                return 0;
            }
            // Each chain goes only upwards, so one way up finds all of them.
            long found = 1L << stretch;
            for (int i = stretch + 1; i < size; i++) {
                if (crossesOneOf(found, i)) {
                    found |= 1L << i;
                }
            }
            return Long.bitCount(found) - 1;
        }

        private boolean crossesOneOf(long found, int stretch) {
            for (int i = 0; i < stretch; i++) {
                if ((found >> i & 1L) == 1L
                    && Ring.doCross(fromAt(i), toAt(i), fromAt(stretch), toAt(stretch))) {
                    return true;
                }
            }
            return false;
        }

        int crossingsOf(int one, int other) {
            int crossings = 0;
            for (int i = 0; i < size; i++) {
                if (threadAt(i) == one) {
                    // With itself each two count once: only what lies over is looked at.
                    crossings += crossed(one == other ? i + 1 : 0, other, fromAt(i), toAt(i));
                }
            }
            return crossings;
        }

        int allCrossings() {
            return crosses;
        }

        /** The stretch that was wound last, wherever it lies. */
        int lastOf(int thread) {
            if (!hasThread(thread)) {
                return NOWHERE;
            }
            for (int i = 0; i < size; i++) {
                if (threadAt(i) == thread && placeAt(i) == counts[thread] - 1) {
                    return i;
                }
            }
            return NOWHERE;
        }

        /** Three for each stretch that crosses the last one, less a fifth of its length. */
        int worthOf(int thread) {
            int last = lastOf(thread);
            if (last == NOWHERE) {
                return 0;
            }
            return 3 * crossingFrom(0, last) - Ring.lengthBetween(fromAt(last), toAt(last)) / 5;
        }

        int windOn(int thread, int nail) {
            if (!hasThread(thread) || size >= MOST_STRETCHES) {
                return 0;
            }
            int from = nails[thread];
            int newly = crossed(0, ALL, from, nail);
            lying[size] = packed(thread, from, nail, counts[thread]);
            size++;
            counts[thread]++;
            nails[thread] = nail;
            crosses += newly;
            return newly;
        }

        /** How many stretches the new ones cross. */
        int windStar(int thread, int steps, int times) {
            int crossed = 0;
            for (int i = 0; i < times; i++) {
                int nail = Ring.stepsOn(nailOf(thread), steps);
                if (!mayWind(thread, nail)) {
                    return crossed;
                }
                crossed += windOn(thread, nail);
            }
            return crossed;
        }

        boolean mayUnwind(int thread) {
            int last = lastOf(thread);
            return last != NOWHERE && crossed(last + 1, ALL, fromAt(last), toAt(last)) == 0;
        }

        int unwindLast(int thread) {
            int last = lastOf(thread);
            if (!hasThread(thread) || last == NOWHERE) {
                return NOWHERE;
            }
            crosses -= crossed(0, ALL, fromAt(last), toAt(last));
            nails[thread] = fromAt(last);
            counts[thread]--;
            for (int i = last + 1; i < size; i++) {
                lying[i - 1] = lying[i];
            }
            size--;
            return nails[thread];
        }

        boolean mayCut(int thread) {
            return stretchesOf(thread) > 0;
        }

        int cutOff(int thread) {
            if (!hasThread(thread)) {
                return 0;
            }
            int left = 0;
            for (int i = 0; i < size; i++) {
                if (threadAt(i) != thread) {
                    lying[left] = lying[i];
                    left++;
                }
            }
            int gone = size - left;
            size = left;
            counts[thread] = 0;
            crosses = 0;
            for (int i = 0; i < size; i++) {
                crosses += crossed(i + 1, ALL, fromAt(i), toAt(i));
            }
            return gone;
        }

        void turnByOne() {
            for (int i = 0; i < threads; i++) {
                nails[i] = Ring.stepsOn(nails[i], 1);
            }
            for (int i = 0; i < size; i++) {
                lying[i] = packed(threadAt(i), Ring.stepsOn(fromAt(i), 1),
                    Ring.stepsOn(toAt(i), 1), placeAt(i));
            }
        }

        void turnOver() {
            for (int i = 0; i < threads; i++) {
                nails[i] = Ring.stepsOn(0, -nails[i]);
            }
            for (int i = 0; i < size; i++) {
                lying[i] = packed(threadAt(i), Ring.stepsOn(0, -fromAt(i)),
                    Ring.stepsOn(0, -toAt(i)), placeAt(i));
            }
            for (int low = 0, high = size - 1; low < high; low++, high--) {
                int under = lying[low];
                lying[low] = lying[high];
                lying[high] = under;
            }
        }
    }

    /** The letters that were written, and how they are read as a board. */
    private static final class Text {
        private static final int AT_START = 0;
        private static final int BEFORE_THREAD = 1;
        private static final int BEFORE_KIND = 2;
        private static final int BEFORE_TIE = 3;
        private static final int BEHIND_NAIL = 4;
        private static final int MOST_TOLD = 9;

        private final int[] letters;
        private int length;
        private int place;
        private int kind;

        Text() {
            letters = new int[MOST_LETTERS];
            length = 0;
            place = AT_START;
            kind = 0;
        }

        int length() {
            return length;
        }

        void clear() {
            length = 0;
        }

        boolean add(int letter) {
            if (length >= MOST_LETTERS) {
                return false;
            }
            letters[length] = letter;
            length++;
            return true;
        }

        /** The fault, or NONE; the board is then the one that the letters tell. */
        int readOnto(Board board) {
            board.clear();
            place = AT_START;
            kind = 0;
            for (int i = 0; i < length; i++) {
                if (!goesOn(letters[i], board)) {
                    return i;
                }
            }
            return place == BEFORE_THREAD || place == BEHIND_NAIL ? NONE : length;
        }

        private boolean goesOn(int letter, Board board) {
            switch (place) {
                case AT_START:
                    place = BEFORE_THREAD;
                    return letter == 'N';
                case BEFORE_THREAD:
                    return beginsThread(letter, board);
                case BEFORE_KIND:
                    kind = letter - '0';
                    place = BEFORE_TIE;
                    return !isOutside(kind, 0, 3);
                case BEFORE_TIE:
                    place = BEHIND_NAIL;
                    return isNail(letter) && board.tie(kind, letter - 'a');
                default:
                    return isNail(letter) ? windsOn(letter - 'a', board) : beginsThread(letter, board);
            }
        }

        private boolean beginsThread(int letter, Board board) {
            place = BEFORE_KIND;
            return letter == 'T' && board.threads() < MOST_THREADS;
        }

        private boolean windsOn(int nail, Board board) {
            int thread = board.threads() - 1;
            if (board.stretchesOf(thread) + 1 >= MOST_TOLD || !board.mayWind(thread, nail)) {
                return false;
            }
            board.windOn(thread, nail);
            return true;
        }

        private static boolean isNail(int letter) {
            return !isOutside(letter - 'a', 0, NAILS - 1);
        }
    }

    /** The boards as they were ahead of each of the last acts. */
    private static final class History {
        private final Board[] boards;
        private int first;
        private int size;

        History() {
            boards = new Board[MOST_ACTS];
            for (int i = 0; i < MOST_ACTS; i++) {
                boards[i] = new Board();
            }
            first = 0;
            size = 0;
        }

        int size() {
            return size;
        }

        void clear() {
            first = 0;
            size = 0;
        }

        void add(Board board) {
            if (size >= MOST_ACTS) {
                first = (first + 1) % MOST_ACTS;
                size--;
            }
            boards[(first + size) % MOST_ACTS].becomeLike(board);
            size++;
        }

        boolean takeBack(Board board) {
            if (size <= 0) {
                return false;
            }
            size--;
            board.becomeLike(boards[(first + size) % MOST_ACTS]);
            return true;
        }
    }

    /** The slots; a caller looks at the slot's number first. */
    private static final class Shelf {
        private final Board[] boards;
        private final boolean[] isKept;

        Shelf() {
            boards = new Board[SLOTS];
            isKept = new boolean[SLOTS];
            for (int i = 0; i < SLOTS; i++) {
                boards[i] = new Board();
                isKept[i] = false;
            }
        }

        void clear() {
            for (int i = 0; i < SLOTS; i++) {
                isKept[i] = false;
            }
        }

        void put(int slot, Board board) {
            if (!isOutside(slot, 0, SLOTS - 1)) {
                boards[slot].becomeLike(board);
                isKept[slot] = true;
            }
        }

        boolean giveBack(int slot, Board board) {
            if (isOutside(slot, 0, SLOTS - 1) || !isKept[slot]) {
                return false;
            }
            board.becomeLike(boards[slot]);
            return true;
        }
    }

    /** The stretches as lines on the board: those between the same two nails are one. */
    private static final class Web {
        private final int[] joined;

        Web() {
            joined = new int[NAILS];
        }

        private void draw(Board board) {
            for (int nail = 0; nail < NAILS; nail++) {
                joined[nail] = 0;
            }
            for (int i = 0; i < board.size(); i++) {
                join(board.fromAt(i), board.toAt(i));
            }
        }

        private void join(int one, int other) {
            if (!isOutside(one, 0, NAILS - 1) && !isOutside(other, 0, NAILS - 1)) {
                joined[one] |= 1 << other;
                joined[other] |= 1 << one;
            }
        }

        private boolean areJoined(int one, int other) {
            return (joined[one] >> other & 1) == 1;
        }

        int partsOf(Board board) {
            draw(board);
            int parts = 1;
            for (int low = 0; low < NAILS; low++) {
                for (int high = low + 1; high < NAILS; high++) {
                    if (areJoined(low, high)) {
                        parts += 1 + crossedUpwards(low, high);
                    }
                }
            }
            return parts;
        }

        /** Only lines that begin within and end beyond, so that each two that cross are met once. */
        private int crossedUpwards(int low, int high) {
            int crossed = 0;
            for (int within = low + 1; within < high; within++) {
                crossed += Integer.bitCount(joined[within] >> high + 1);
            }
            return crossed;
        }

        int strokesOf(Board board) {
            draw(board);
            int strokes = 0;
            int done = 0;
            for (int nail = 0; nail < NAILS; nail++) {
                if (joined[nail] != 0 && (done >> nail & 1) == 0) {
                    int group = groupOf(nail);
                    strokes += Math.max(1, oddNails(group) / 2);
                    done |= group;
                }
            }
            return strokes;
        }

        private int groupOf(int start) {
            int group = 1 << start;
            for (int round = 0; round < NAILS; round++) {
                for (int nail = 0; nail < NAILS; nail++) {
                    if ((group >> nail & 1) == 1) {
                        group |= joined[nail];
                    }
                }
            }
            return group;
        }

        /** A stroke that does not come back to its start has two such ends. */
        private int oddNails(int group) {
            int odd = 0;
            for (int nail = 0; nail < NAILS; nail++) {
                if ((group >> nail & 1) == 1) {
                    odd += Integer.bitCount(joined[nail]) & 1;
                }
            }
            return odd;
        }
    }

    /** Told doings, four figures each, the first in the highest figures. */
    private static final class Doings {
        private static final long[] POWERS = {1L, 10000L, 100000000L, 1000000000000L, 10000000000000000L};

        static boolean isTooLong(int n, long row) {
            return isOutside(n, 0, MOST_DOINGS) || row < 0L || row >= POWERS[n];
        }

        static int firstWrong(int n, long row, Board board, Web web) {
            for (int i = 0; i < n && i < MOST_DOINGS; i++) {
                int told = (int) (row / powerAt(n - 1 - i) % 10000L);
                if (!comesTrue(told, board, web)) {
                    return i;
                }
            }
            return NONE;
        }

        private static long powerAt(int i) {
            return isOutside(i, 0, MOST_DOINGS) ? 1L : POWERS[i];
        }

        private static boolean comesTrue(int told, Board board, Web web) {
            switch (told / 1000) {
                case 1: return winds(board, told / 100 % 10, told % 100);
                case 2: return told < 2010 && unwinds(board, told % 10);
                case 3: return told < 3010 && cuts(board, told % 10);
                case 4: return told == 4000 && turns(board);
                case 5: return told == 5000 && turnsOver(board);
                case 6: return doCross(board, told / 100 % 10, told / 10 % 10, told % 10);
                case 7: return told < 7100 && web.partsOf(board) >= told % 100;
                default: return false;
            }
        }

        static boolean winds(Board board, int thread, int nail) {
            if (!board.mayWind(thread, nail)) {
                return false;
            }
            board.windOn(thread, nail);
            return true;
        }

        static boolean unwinds(Board board, int thread) {
            if (!board.mayUnwind(thread)) {
                return false;
            }
            board.unwindLast(thread);
            return true;
        }

        static boolean cuts(Board board, int thread) {
            if (!board.mayCut(thread)) {
                return false;
            }
            board.cutOff(thread);
            return true;
        }

        static boolean turns(Board board) {
            board.turnByOne();
            return true;
        }

        static boolean turnsOver(Board board) {
            board.turnOver();
            return true;
        }

        private static boolean doCross(Board board, int one, int other, int times) {
            return board.hasThread(one) && board.hasThread(other)
                && board.crossingsOf(one, other) >= times;
        }
    }

    /** What was seen of an unknown star. */
    private static final class Seen {
        private final int[] times;
        private final int[] nails;
        private final int[] was;
        private int size;

        Seen() {
            times = new int[MOST_SEEN];
            nails = new int[MOST_SEEN];
            was = new int[MOST_SEEN];
            size = 0;
        }

        int size() {
            return size;
        }

        void clear() {
            size = 0;
        }

        boolean add(int time, int nail, int wasThere) {
            if (size >= MOST_SEEN) {
                return false;
            }
            times[size] = time;
            nails[size] = nail;
            was[size] = wasThere;
            size++;
            return true;
        }

        private boolean fits(int nail, int steps) {
            for (int i = 0; i < size; i++) {
                boolean isThere = Ring.stepsOn(nail, steps * times[i]) == nails[i];
                if (isThere != (was[i] == 1)) {
                    return false;
                }
            }
            return true;
        }

        int howMany() {
            int fitting = 0;
            for (int nail = 0; nail < NAILS; nail++) {
                for (int steps = 1; steps < NAILS; steps++) {
                    if (fits(nail, steps)) {
                        fitting++;
                    }
                }
            }
            return fitting;
        }

        int firstStar() {
            for (int nail = 0; nail < NAILS; nail++) {
                for (int steps = 1; steps < NAILS; steps++) {
                    if (fits(nail, steps)) {
                        return 100 * nail + steps;
                    }
                }
            }
            return NONE;
        }
    }

    /** Two threads that each wind (1) or do not (0); a pair of choices is twice the one's and the other's. */
    private static final class Rests {
        private static final int PAIRS = 4;
        private static final int STEPS = 5;

        private final int[] ofOne;
        private final int[] ofOther;

        Rests() {
            ofOne = new int[PAIRS];
            ofOther = new int[PAIRS];
        }

        void tryAll(Board board, Board trial, int one, int other) {
            for (int pair = 0; pair < PAIRS; pair++) {
                trial.becomeLike(board);
                trial.windStar(one, STEPS, pair / 2);
                trial.windStar(other, STEPS, pair % 2);
                ofOne[pair] = trial.worthOf(one);
                ofOther[pair] = trial.worthOf(other);
            }
        }

        private boolean isAtRest(int pair) {
            return ofOne[pair] >= ofOne[pair ^ 2] && ofOther[pair] >= ofOther[pair ^ 1];
        }

        int howMany() {
            int resting = 0;
            for (int pair = 0; pair < PAIRS; pair++) {
                if (isAtRest(pair)) {
                    resting++;
                }
            }
            return resting;
        }

        int firstPair() {
            for (int pair = 0; pair < PAIRS; pair++) {
                if (isAtRest(pair)) {
                    return 10 * (pair / 2) + pair % 2;
                }
            }
            return NONE;
        }
    }

    /** Fractions, and years by the seed. */
    private static final class Chances {
        private static final long FACTOR = 6364136223846793005L;
        private static final long ADDEND = 1442695040888963407L;

        /** What each two threads cross, in rows; counted once for all sets of threads. */
        private final int[] between;

        Chances() {
            between = new int[MOST_THREADS * MOST_THREADS];
        }

        static int toldFraction(int above, int below, boolean upper) {
            int divisor = Math.max(1, commonDivisor(above, below));
            return upper ? above / divisor : below / divisor;
        }

        private static int commonDivisor(int one, int other) {
            int high = one;
            int low = other;
            for (int i = 0; i < 64 && low != 0; i++) {
                int left = high % low;
                high = low;
                low = left;
            }
            return Math.abs(high);
        }

        /** A thread comes behind each other one in half of the orders, so half of what both cross is its. */
        static int twiceShare(Board board, int thread) {
            int twice = 0;
            for (int other = 0; other < board.threads(); other++) {
                int crossings = board.crossingsOf(thread, other);
                twice += other == thread ? 2 * crossings : crossings;
            }
            return twice;
        }

        static int allWeight(Board board) {
            int weight = 1;
            for (int i = 0; i < board.threads(); i++) {
                weight *= 10;
            }
            return weight;
        }

        /** Of all the weight, that of the sets of uncut threads that cross v times or more. */
        int weightOfSnaps(Board board, int v, int tenths) {
            countBetween(board);
            int weight = 0;
            for (int uncut = 0; uncut < 1 << board.threads(); uncut++) {
                if (crossingsAmong(uncut) >= v) {
                    weight += weightOf(board, uncut, tenths);
                }
            }
            return weight;
        }

        private void countBetween(Board board) {
            for (int one = 0; one < MOST_THREADS; one++) {
                for (int other = one; other < MOST_THREADS; other++) {
                    between[one * MOST_THREADS + other] = board.crossingsOf(one, other);
                }
            }
        }

        private int crossingsAmong(int uncut) {
            int crossings = 0;
            for (int one = 0; one < MOST_THREADS; one++) {
                for (int other = one; other < MOST_THREADS; other++) {
                    if ((uncut >> one & 1) == 1 && (uncut >> other & 1) == 1) {
                        crossings += between[one * MOST_THREADS + other];
                    }
                }
            }
            return crossings;
        }

        private static int weightOf(Board board, int uncut, int tenths) {
            int weight = 1;
            for (int i = 0; i < board.threads(); i++) {
                weight *= (uncut >> i & 1) == 1 ? 10 - tenths : tenths;
            }
            return weight;
        }

        static long drawnFrom(long x) {
            return x * FACTOR + ADDEND;
        }

        static void liveYear(Board board, long x) {
            int drawn = (int) ((x >>> 33) % 60L);
            if (drawn < 48) {
                Doings.winds(board, drawn / NAILS, drawn % NAILS);
            } else if (drawn < 52) {
                Doings.unwinds(board, drawn - 48);
            } else if (drawn < 54) {
                Doings.cuts(board, drawn - 52);
            } else if (drawn < 57) {
                board.turnByOne();
            } else {
                board.turnOver();
            }
        }
    }
}
