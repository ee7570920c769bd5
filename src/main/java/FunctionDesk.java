/**
 * A desk of truth functions of ten variables, each held as the table of its 1024 truths.
 *
 * <p>No diagram is kept: the functions in a diagram are the parts of the table that come of
 * fixing the first variables, so the tables alone tell how many nodes there are.
 *
 * <p>Bit p % 64 of word p / 64 of a table is the truth for point p. So variables 0 .. 3 choose
 * the word and variables 4 .. 9 the bit within it.
 */
public final class FunctionDesk {
    public static final int NONE = -1;

    private static final int SLOTS = 48;
    private static final int VARIABLES = 10;
    private static final int POINTS = 1024;
    private static final int WORDS = 16;
    private static final int WORD_BITS = 64;
    private static final int WORD_VARIABLES = 4;

    // The truths of variables 4 .. 9 within any word.
    private static final long[] BIT_VARIABLES = {
        0xFFFFFFFF00000000L, 0xFFFF0000FFFF0000L, 0xFF00FF00FF00FF00L,
        0xF0F0F0F0F0F0F0F0L, 0xCCCCCCCCCCCCCCCCL, 0xAAAAAAAAAAAAAAAAL
    };

    private final long[][] slots;

    // Rows that calls reckon in, made once because nothing that a call makes is ever given back.
    private final long[] made;
    private final long[] madeNext;
    private final long[] found;
    private final long[] foundNext;
    private final Ruler ruler;

    public FunctionDesk() {
        slots = new long[SLOTS][WORDS];
        made = new long[WORDS];
        madeNext = new long[WORDS];
        found = new long[WORDS];
        foundNext = new long[WORDS];
        ruler = new Ruler();
    }

    public void constant(int s, boolean truth) throws IndexOutOfBoundsException {
        checkSlot(s);
        for (int i = 0; i < WORDS; i++) {
            slots[s][i] = truth ? -1L : 0L;
        }
    }

    public void variable(int s, int v) throws IndexOutOfBoundsException, IllegalArgumentException {
        checkSlot(s);
        checkVariable(v);
        for (int i = 0; i < WORDS; i++) {
            slots[s][i] = variableWord(v, i);
        }
    }

    public void join(int s, int a, int b, int how)
            throws IndexOutOfBoundsException, IllegalArgumentException {
        checkSlot(s);
        checkSlot(a);
        checkSlot(b);
        if (how < 0 || how > 15) {
            throw new IllegalArgumentException("how is not 0 .. 15");
        }
        // A word comes of the words at its own place alone, so s may be a or b without a copy.
        for (int i = 0; i < WORDS; i++) {
            long p = slots[a][i];
            long q = slots[b][i];
            slots[s][i] = (spreadBit(how, 0) & ~p & ~q) | (spreadBit(how, 1) & ~p & q)
                    | (spreadBit(how, 2) & p & ~q) | (spreadBit(how, 3) & p & q);
        }
    }

    public void choose(int s, int a, int b, int c) throws IndexOutOfBoundsException {
        checkSlot(s);
        checkSlot(a);
        checkSlot(b);
        checkSlot(c);
        for (int i = 0; i < WORDS; i++) {
            slots[s][i] = pick(slots[a][i], slots[b][i], slots[c][i]);
        }
    }

    public void fix(int s, int a, int v, boolean truth)
            throws IndexOutOfBoundsException, IllegalArgumentException {
        checkSlot(s);
        checkSlot(a);
        checkVariable(v);
        for (int i = 0; i < WORDS; i++) {
            made[i] = wordWith(slots[a], i, v, truth ? -1L : 0L);
        }
        copyRow(made, slots[s]);
    }

    public void some(int s, int a, int set, boolean every)
            throws IndexOutOfBoundsException, IllegalArgumentException {
        checkSlot(s);
        checkSlot(a);
        if (set < 0 || set >= POINTS) {
            throw new IllegalArgumentException("the set is not 0 .. 1023");
        }
        copyRow(slots[a], made);
        for (int v = 0; v < VARIABLES; v++) {
            if ((set & bitOf(v)) != 0) {
                quantifyMade(v, every);
            }
        }
        copyRow(made, slots[s]);
    }

    public void put(int s, int a, int v, int b)
            throws IndexOutOfBoundsException, IllegalArgumentException {
        checkSlot(s);
        checkSlot(a);
        checkSlot(b);
        checkVariable(v);
        for (int i = 0; i < WORDS; i++) {
            made[i] = wordWith(slots[a], i, v, slots[b][i]);
        }
        copyRow(made, slots[s]);
    }

    public void swap(int s, int a, int v, int w)
            throws IndexOutOfBoundsException, IllegalArgumentException {
        checkSlot(s);
        checkSlot(a);
        checkVariable(v);
        checkVariable(w);
        for (int i = 0; i < WORDS; i++) {
            made[i] = turnedWord(slots[a], i, v);
        }
        // Changing two truths over turns both where they differ and does nothing elsewhere.
        for (int i = 0; i < WORDS; i++) {
            long differ = variableWord(v, i) ^ variableWord(w, i);
            madeNext[i] = pick(differ, turnedWord(made, i, w), slots[a][i]);
        }
        copyRow(madeNext, slots[s]);
    }

    public void nearest(int s, int a, int c)
            throws IndexOutOfBoundsException, IllegalArgumentException {
        checkSlot(s);
        checkSlot(a);
        checkSlot(c);
        if (isFalse(slots[c])) {
            throw new IllegalArgumentException("no point to go to");
        }
        copyRow(slots[a], made);
        copyRow(slots[c], found);
        for (int v = VARIABLES - 1; v >= 0; v--) {
            widenSearch(v);
        }
        copyRow(made, slots[s]);
    }

    public boolean isSame(int a, int b) throws IndexOutOfBoundsException {
        checkSlot(a);
        checkSlot(b);
        for (int i = 0; i < WORDS; i++) {
            if (slots[a][i] != slots[b][i]) {
                return false;
            }
        }
        return true;
    }

    public boolean truth(int a, int point)
            throws IndexOutOfBoundsException, IllegalArgumentException {
        checkSlot(a);
        checkPoint(point);
        return ((slots[a][point / WORD_BITS] >>> (point % WORD_BITS)) & 1L) != 0;
    }

    public int count(int a) throws IndexOutOfBoundsException {
        checkSlot(a);
        int points = 0;
        for (int i = 0; i < WORDS; i++) {
            points += Long.bitCount(slots[a][i]);
        }
        return points;
    }

    public int next(int a, int point) throws IndexOutOfBoundsException, IllegalArgumentException {
        checkSlot(a);
        checkPoint(point);
        int start = point / WORD_BITS;
        long allowed = -1L << (point % WORD_BITS);
        for (int i = start; i < WORDS; i++) {
            long word = slots[a][i] & allowed;
            if (word != 0) {
                return i * WORD_BITS + lowestBit(word);
            }
            allowed = -1L;
        }
        return NONE;
    }

    public int depends(int a) throws IndexOutOfBoundsException {
        checkSlot(a);
        int set = 0;
        for (int v = 0; v < VARIABLES; v++) {
            if (changesWith(slots[a], v)) {
                set |= bitOf(v);
            }
        }
        return set;
    }

    public int size(int a) throws IndexOutOfBoundsException {
        checkSlot(a);
        return ruler.nodesOf(slots, a, a, 0, VARIABLES - 1);
    }

    public int sizes(int from, int to) throws IndexOutOfBoundsException, IllegalArgumentException {
        checkSlot(from);
        checkSlot(to);
        if (from > to) {
            throw new IllegalArgumentException("from is above to");
        }
        return ruler.nodesOf(slots, from, to, 0, VARIABLES - 1);
    }

    public int level(int a, int v) throws IndexOutOfBoundsException, IllegalArgumentException {
        checkSlot(a);
        checkVariable(v);
        return ruler.nodesOf(slots, a, a, v, v);
    }

    private static void checkSlot(int s) {
        if (s < 0 || s >= SLOTS) {
            throw new IndexOutOfBoundsException("there is no such slot");
        }
    }

    private static void checkVariable(int v) {
        if (v < 0 || v >= VARIABLES) {
            throw new IllegalArgumentException("the variable is not 0 .. 9");
        }
    }

    private static void checkPoint(int point) {
        if (point < 0 || point >= POINTS) {
            throw new IllegalArgumentException("the point is not 0 .. 1023");
        }
    }

    /** The bit that variable v has in points and in sets. */
    private static int bitOf(int v) {
        return 1 << (VARIABLES - 1 - v);
    }

    /** All ones if bit k of how is 1, else 0. */
    private static long spreadBit(int how, int k) {
        return -((how >>> k) & 1L);
    }

    private static int lowestBit(long word) {
        return Long.bitCount(~word & (word - 1));
    }

    private static long pick(long where, long there, long elsewhere) {
        return (where & there) | (~where & elsewhere);
    }

    private static void copyRow(long[] from, long[] to) {
        System.arraycopy(from, 0, to, 0, WORDS);
    }

    private static boolean isFalse(long[] row) {
        for (int i = 0; i < WORDS; i++) {
            if (row[i] != 0) {
                return false;
            }
        }
        return true;
    }

    /** Word i of the table of variable v. */
    private static long variableWord(int v, int i) {
        if (v < WORD_VARIABLES) {
            return spreadBit(i, WORD_VARIABLES - 1 - v);
        }
        return BIT_VARIABLES[v - WORD_VARIABLES];
    }

    /** Word i of the function that has at each point what row has with variable v turned. */
    private static long turnedWord(long[] row, int i, int v) {
        if (v < WORD_VARIABLES) {
            return row[i ^ (1 << (WORD_VARIABLES - 1 - v))];
        }
        long high = BIT_VARIABLES[v - WORD_VARIABLES];
        int step = bitOf(v);
        return ((row[i] & high) >>> step) | ((row[i] << step) & high);
    }

    /** Word i of row with the truths of truthWord in place of variable v. */
    private static long wordWith(long[] row, int i, int v, long truthWord) {
        long differ = truthWord ^ variableWord(v, i);
        return pick(differ, turnedWord(row, i, v), row[i]);
    }

    private static boolean changesWith(long[] row, int v) {
        for (int i = 0; i < WORDS; i++) {
            if (row[i] != turnedWord(row, i, v)) {
                return true;
            }
        }
        return false;
    }

    private void quantifyMade(int v, boolean every) {
        for (int i = 0; i < WORDS; i++) {
            long turned = turnedWord(made, i, v);
            madeNext[i] = every ? made[i] & turned : made[i] | turned;
        }
        copyRow(madeNext, made);
    }

    /**
     * One step of nearest, for v from the last variable to the first. Before it, found tells at
     * each point whether a point to go to differs from it in variables behind v alone, and made
     * has the answer where there is one. Turning v costs more than all behind it together, so
     * the other side of v is asked only where nothing is found yet.
     */
    private void widenSearch(int v) {
        for (int i = 0; i < WORDS; i++) {
            madeNext[i] = pick(found[i], made[i], turnedWord(made, i, v));
            foundNext[i] = found[i] | turnedWord(found, i, v);
        }
        copyRow(madeNext, made);
        copyRow(foundNext, found);
    }

    /**
     * Counts the nodes of diagrams.
     *
     * <p>A part of level v is what comes of fixing variables 0 .. v - 1 of a slot's function: a
     * stretch of its table. Part n of a level is the n-th such stretch through all slots, so its
     * halves are parts 2n and 2n + 1 of the next level. The nodes told by variable v are the
     * different parts of level v whose halves differ.
     */
    private static final class Ruler {
        // Different parts of one level: at most 48 * 64 up to level 6, and at most 256 behind it,
        // where a part has 8 truths or fewer. A level and what is found of the next fit together.
        private static final int ROOM = 4096;
        private static final long MIXER = 0x9E3779B97F4A7C15L;

        // A ring of the different parts that are still to be halved.
        private final int[] waiting;
        private int first;
        private int length;

        // Which parts of the level have come: each as its number + 1, sought by its truths.
        private final int[] seats;
        private int seatsUsed;

        Ruler() {
            waiting = new int[ROOM];
            seats = new int[ROOM];
            first = 0;
            length = 0;
            seatsUsed = 1;
        }

        /** The nodes of slots from .. to together that are told by variables low .. high. */
        int nodesOf(long[][] slots, int from, int to, int low, int high) {
            first = 0;
            length = 0;
            clearSeats(to - from + 1);
            for (int s = from; s <= to; s++) {
                enter(slots, 0, s);
            }
            int nodes = 0;
            for (int v = 0; v <= high; v++) {
                int told = halveAll(slots, v);
                if (v >= low) {
                    nodes += told;
                }
            }
            return nodes;
        }

        /** Goes from the parts of level v to those of the next; answers how many are nodes. */
        private int halveAll(long[][] slots, int v) {
            int parts = length;
            int nodes = 0;
            clearSeats(2 * parts);
            for (int k = 0; k < parts; k++) {
                int half = 2 * takeFirst();
                enter(slots, v + 1, half);
                if (!samePart(slots, v + 1, half, half + 1)) {
                    nodes++;
                    enter(slots, v + 1, half + 1);
                }
            }
            return nodes;
        }

        /** Frees some twice as many seats as there are parts to come: few parts cost little. */
        private void clearSeats(int parts) {
            seatsUsed = 1;
            while (seatsUsed < 2 * parts && seatsUsed < ROOM) {
                seatsUsed *= 2;
            }
            for (int i = 0; i < seatsUsed; i++) {
                seats[i] = 0;
            }
        }

        private int takeFirst() {
            int part = waiting[first];
            first = (first + 1) & (ROOM - 1);
            length--;
            return part;
        }

        /** Lets a part wait unless one with the same truths has come to this level before. */
        private void enter(long[][] slots, int level, int part) {
            int seat = seatOf(slots, level, part);
            for (int tries = 0; tries < seatsUsed; tries++) {
                if (seats[seat] == 0) {
                    seats[seat] = part + 1;
                    waiting[(first + length) & (ROOM - 1)] = part;
                    length++;
                    return;
                }
                if (samePart(slots, level, seats[seat] - 1, part)) {
                    return;
                }
                seat = (seat + 1) & (seatsUsed - 1);
            }
        }

        private int seatOf(long[][] slots, int level, int part) {
            long mixed = 0;
            for (int k = 0; k < wordsIn(level); k++) {
                mixed = (mixed ^ partWord(slots, level, part, k)) * MIXER;
                mixed = (mixed ^ (mixed >>> 32)) * MIXER;
            }
            return (int) (mixed >>> 40) & (seatsUsed - 1);
        }

        private static boolean samePart(long[][] slots, int level, int part, int other) {
            for (int k = 0; k < wordsIn(level); k++) {
                if (partWord(slots, level, part, k) != partWord(slots, level, other, k)) {
                    return false;
                }
            }
            return true;
        }

        private static int wordsIn(int level) {
            return level < WORD_VARIABLES ? WORDS >> level : 1;
        }

        /** The k-th word of a part's truths; a part of less than a word has the lowest bits. */
        private static long partWord(long[][] slots, int level, int part, int k) {
            int width = POINTS >> level;
            int start = part * width;
            int point = start % POINTS;
            long word = slots[start / POINTS][point / WORD_BITS + k];
            if (width >= WORD_BITS) {
                return word;
            }
            return (word >>> (point % WORD_BITS)) & ((1L << width) - 1);
        }
    }
}
