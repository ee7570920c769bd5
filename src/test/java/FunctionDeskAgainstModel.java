import java.util.Arrays;
import java.util.HashSet;
import java.util.Random;
import java.util.Set;

/**
 * Runs of 512 calls, drawn from a fixed seed, against a model that follows the document's words
 * point by point and node by node.
 */
public final class FunctionDeskAgainstModel {
    private static final int RUNS = 60;
    private static final int CALLS = 512;
    private static final long NO_SLOT = -1001;
    private static final long NOT_AS_SAID = -1002;

    private static int wrong = 0;

    private final Random random;
    private final FunctionDesk desk = new FunctionDesk();
    private final boolean[][] model = new boolean[48][1024];
    private final int slotsUsed;
    private final boolean rich;
    private int largest = 0;

    private FunctionDeskAgainstModel(long seed) {
        random = new Random(seed);
        int[] widths = {6, 16, 48};
        slotsUsed = widths[(int) (seed % 3)];
        rich = seed % 4 != 0;
    }

    public static void main(String[] args) {
        int largest = 0;
        for (int seed = 0; seed < RUNS; seed++) {
            FunctionDeskAgainstModel run = new FunctionDeskAgainstModel(seed);
            for (int call = 0; call < CALLS && wrong < 20; call++) {
                run.oneCall(seed, call);
            }
            run.compareAll(seed);
            largest = Math.max(largest, run.largest);
        }
        if (largest < 4000) {
            wrong++;
            System.out.println("the runs reached only " + largest + " nodes together");
        }
        System.exit(wrong == 0 ? 0 : 1);
    }

    private void oneCall(long seed, int call) {
        int kind = call < 48 ? 1 : drawKind(call);
        int[] args = new int[4];
        for (int i = 0; i < 4; i++) {
            args[i] = drawArgument(kind, i);
        }
        if (call < 48) {
            args[0] = call % slotsUsed;
            args[1] = call % 10;
        }
        boolean flag = random.nextBoolean();
        long want = modelAnswer(kind, args, flag);
        long got = deskAnswer(kind, args, flag);
        if (kind == 15) {
            largest = Math.max(largest, (int) want);
        }
        if (got != want) {
            wrong++;
            System.out.println("seed " + seed + " call " + call + ": kind " + kind + " "
                    + Arrays.toString(args) + " " + flag + " answered " + got + ", due is " + want);
        }
    }

    /**
     * All kinds alike soon make every function a constant; so rich runs first choose between
     * functions and join them, which makes wide diagrams, and seldom flatten them later.
     */
    private int drawKind(int call) {
        if (!rich) {
            return random.nextInt(17);
        }
        if (call < 400 || random.nextInt(3) == 0) {
            return RICH_KINDS[random.nextInt(RICH_KINDS.length)];
        }
        return random.nextInt(8) == 0 ? random.nextInt(10) : 10 + random.nextInt(7);
    }

    private static final int[] RICH_KINDS = {2, 2, 3, 3, 3, 6, 7, 7};

    /** Mostly a number that is right for its place; now and then any near the edges. */
    private int drawArgument(int kind, int place) {
        if (random.nextInt(200) == 0) {
            int[] odd = {-1, 9, 10, 15, 16, 47, 48, 1023, 1024, Integer.MIN_VALUE, Integer.MAX_VALUE};
            return odd[random.nextInt(odd.length)];
        }
        String places = PLACES[kind];
        char sort = place < places.length() ? places.charAt(place) : '-';
        switch (sort) {
            case 's': return random.nextInt(slotsUsed);
            case 'v': return random.nextInt(10);
            case 'h': return rich && random.nextInt(4) != 0 ? 6 : random.nextInt(16);
            case 'p': return random.nextInt(1024);
            case 'q': return random.nextInt(1024) & random.nextInt(1024) & random.nextInt(1024);
            case 'f': return random.nextInt(2) * random.nextInt(slotsUsed);
            case 't': return slotsUsed - 1 - random.nextInt(2) * random.nextInt(slotsUsed);
            default: return 0;
        }
    }

    private static final String[] PLACES = {
        "s", "sv", "sssh", "ssss", "ssv", "ssq", "ssvs", "ssvv", "sss", "sss",
        "ss", "sp", "s", "sp", "s", "ft", "sv"
    };

    private long deskAnswer(int kind, int[] n, boolean flag) {
        try {
            switch (kind) {
                case 0:
                    // Constants flatten everything, so most of these draws ask for the size.
                    if (n[0] % 8 != 0) {
                        return desk.size(n[0]);
                    }
                    desk.constant(n[0], flag);
                    return 0;
                case 1: desk.variable(n[0], n[1]); return 0;
                case 2: desk.join(n[0], n[1], n[2], n[3]); return 0;
                case 3: desk.choose(n[0], n[1], n[2], n[3]); return 0;
                case 4: desk.fix(n[0], n[1], n[2], flag); return 0;
                case 5: desk.some(n[0], n[1], n[2], flag); return 0;
                case 6: desk.put(n[0], n[1], n[2], n[3]); return 0;
                case 7: desk.swap(n[0], n[1], n[2], n[3]); return 0;
                case 8:
                case 9: desk.nearest(n[0], n[1], n[2]); return 0;
                case 10: return desk.isSame(n[0], n[1]) ? 1 : 0;
                case 11: return desk.truth(n[0], n[1]) ? 1 : 0;
                case 12: return desk.count(n[0]);
                case 13: return desk.next(n[0], n[1]);
                case 14: return desk.depends(n[0]);
                case 15: return desk.sizes(n[0], n[1]);
                default: return desk.level(n[0], n[1]);
            }
        } catch (IndexOutOfBoundsException e) {
            return e.getClass() == IndexOutOfBoundsException.class ? NO_SLOT : 0;
        } catch (IllegalArgumentException e) {
            return e.getClass() == IllegalArgumentException.class ? NOT_AS_SAID : 0;
        }
    }

    private long modelAnswer(int kind, int[] n, boolean flag) {
        String places = PLACES[kind];
        for (int i = 0; i < places.length(); i++) {
            if ("sft".indexOf(places.charAt(i)) >= 0 && (n[i] < 0 || n[i] > 47)) {
                return NO_SLOT;
            }
        }
        for (int i = 0; i < places.length(); i++) {
            char sort = places.charAt(i);
            int most = sort == 'v' ? 9 : sort == 'h' ? 15 : 1023;
            if (n[i] < 0 || n[i] > most) {
                return NOT_AS_SAID;
            }
        }
        return kind < 10 ? modelMakes(kind, n, flag) : modelTells(kind, n);
    }

    private long modelMakes(int kind, int[] n, boolean flag) {
        if (kind == 0 && n[0] % 8 != 0) {
            return nodesOf(n[0], n[0]).size();
        }
        if (kind >= 8 && leastFrom(model[n[2]], 0) < 0) {
            return NOT_AS_SAID;
        }
        boolean[] made = new boolean[1024];
        for (int x = 0; x < 1024; x++) {
            made[x] = madeTruth(kind, n, flag, x);
        }
        model[n[0]] = made;
        return 0;
    }

    private boolean madeTruth(int kind, int[] n, boolean flag, int x) {
        boolean[] a = model[n[1] % 48];
        switch (kind) {
            case 0: return flag;
            case 1: return bit(x, n[1]);
            case 2: return (n[3] >> ((a[x] ? 2 : 0) + (model[n[2]][x] ? 1 : 0)) & 1) == 1;
            case 3: return a[x] ? model[n[2]][x] : model[n[3]][x];
            case 4: return a[with(x, n[2], flag)];
            case 5: return quantified(a, n[2], flag, x);
            case 6: return a[with(x, n[2], model[n[3]][x])];
            case 7: return a[with(with(x, n[2], bit(x, n[3])), n[3], bit(x, n[2]))];
            default: return a[nearestTo(model[n[2]], x)];
        }
    }

    private static boolean quantified(boolean[] a, int set, boolean every, int x) {
        for (int y = 0; y < 1024; y++) {
            if ((y & ~set) == (x & ~set) && a[y] != every) {
                return !every;
            }
        }
        return every;
    }

    private static int nearestTo(boolean[] c, int x) {
        int best = -1;
        for (int y = 0; y < 1024; y++) {
            if (c[y] && (best < 0 || (y ^ x) < (best ^ x))) {
                best = y;
            }
        }
        return best;
    }

    private long modelTells(int kind, int[] n) {
        boolean[] a = model[n[0]];
        switch (kind) {
            case 10: return Arrays.equals(a, model[n[1]]) ? 1 : 0;
            case 11: return a[n[1]] ? 1 : 0;
            case 12: return countOf(a);
            case 13: return leastFrom(a, n[1]);
            case 14: return dependsOn(a);
            case 15: return n[0] > n[1] ? NOT_AS_SAID : nodesOf(n[0], n[1]).size();
            default: return toldBy(n[0], n[1]);
        }
    }

    private static int countOf(boolean[] a) {
        int points = 0;
        for (boolean truth : a) {
            points += truth ? 1 : 0;
        }
        return points;
    }

    private static int leastFrom(boolean[] a, int from) {
        for (int x = from; x < 1024; x++) {
            if (a[x]) {
                return x;
            }
        }
        return -1;
    }

    private static int dependsOn(boolean[] a) {
        int set = 0;
        for (int v = 0; v < 10; v++) {
            for (int x = 0; x < 1024; x++) {
                if (a[with(x, v, false)] != a[with(x, v, true)]) {
                    set |= 1 << (9 - v);
                }
            }
        }
        return set;
    }

    private int toldBy(int slot, int v) {
        int told = 0;
        for (String node : nodesOf(slot, slot)) {
            told += node.charAt(0) == '0' + v ? 1 : 0;
        }
        return told;
    }

    /** The functions that are nodes, each written as its first variable and its truths. */
    private Set<String> nodesOf(int from, int to) {
        Set<String> nodes = new HashSet<>();
        for (int s = from; s <= to; s++) {
            addNodes(model[s], 0, nodes);
        }
        return nodes;
    }

    /** What is fixed so far leaves a function that depends on no variable before the first one. */
    private static void addNodes(boolean[] f, int from, Set<String> nodes) {
        int v = from;
        while (v < 10 && !dependsOn(f, v)) {
            v++;
        }
        if (v == 10) {
            return;
        }
        char[] text = new char[1025];
        text[0] = (char) ('0' + v);
        for (int x = 0; x < 1024; x++) {
            text[x + 1] = f[x] ? '1' : '0';
        }
        if (nodes.add(new String(text))) {
            addNodes(fixed(f, v, false), v + 1, nodes);
            addNodes(fixed(f, v, true), v + 1, nodes);
        }
    }

    private static boolean dependsOn(boolean[] f, int v) {
        int step = 1 << (9 - v);
        for (int x = 0; x < 1024; x++) {
            if (f[x] != f[x ^ step]) {
                return true;
            }
        }
        return false;
    }

    private static boolean[] fixed(boolean[] f, int v, boolean truth) {
        boolean[] g = new boolean[1024];
        for (int x = 0; x < 1024; x++) {
            g[x] = f[with(x, v, truth)];
        }
        return g;
    }

    private static boolean bit(int x, int v) {
        return (x >> (9 - v) & 1) == 1;
    }

    private static int with(int x, int v, boolean truth) {
        int step = 1 << (9 - v);
        return truth ? x | step : x & ~step;
    }

    private void compareAll(long seed) {
        for (int s = 0; s < 48; s++) {
            for (int x = 0; x < 1024; x++) {
                if (desk.truth(s, x) != model[s][x]) {
                    wrong++;
                    System.out.println("seed " + seed + ": slot " + s + " is wrong at " + x);
                    return;
                }
            }
        }
    }
}
