import java.util.ArrayList;
import java.util.Arrays;
import java.util.HashSet;
import java.util.List;
import java.util.Random;
import java.util.Set;

/**
 * Runs of 512 calls, drawn from a fixed seed, against a model that follows the document's words
 * point by point and node by node.
 */
public final class FunctionDeskAgainstModel {
    private static final int RUNS = 60;
    private static final int CALLS = 512;

    // Later calls only tell, so that what a run makes can be made again and asked for its points.
    private static final int LAST_TO_MAKE = 384;

    // All kinds alike soon make every function a constant; these make wide diagrams.
    private static final Kind[] WIDENING = {
        Kind.JOIN, Kind.CHOOSE, Kind.CHOOSE, Kind.PUT, Kind.SWAP, Kind.SWAP
    };

    private final Random random;
    private final FunctionDesk desk = new FunctionDesk();
    private final boolean[][] model = new boolean[48][1024];
    private final List<Call> making = new ArrayList<>();
    private final int slotsUsed;
    private final boolean wide;
    private int largest = 0;

    private record Call(Kind kind, int[] n, boolean flag) {
        long on(FunctionDesk desk) {
            return kind.answer(desk, n, flag);
        }
    }

    private FunctionDeskAgainstModel(int seed) {
        random = new Random(seed);
        int[] widths = {6, 16, 48};
        slotsUsed = widths[seed % 3];
        wide = seed % 4 != 0;
    }

    public static void main(String[] args) {
        int largest = 0;
        for (int seed = 0; seed < RUNS && Checks.wrongSoFar() < 20; seed++) {
            FunctionDeskAgainstModel run = new FunctionDeskAgainstModel(seed);
            for (int k = 0; k < CALLS && Checks.wrongSoFar() < 20; k++) {
                run.oneCall("seed " + seed + " call " + k, run.drawCall(k));
            }
            run.compareTables("seed " + seed);
            largest = Math.max(largest, run.largest);
        }
        Checks.due("the runs reached 3000 nodes together", largest >= 3000, true);
        Checks.end();
    }

    private Call drawCall(int k) {
        Kind kind = k < 48 ? Kind.VARIABLE : drawKind(k);
        int[] n = new int[4];
        for (int place = 0; place < kind.places.length(); place++) {
            n[place] = drawNumber(kind.places.charAt(place));
        }
        if (k < 48) {
            n[0] = k % slotsUsed;
            n[1] = k % 10;
        }
        if (kind == Kind.SIZES && random.nextInt(2) == 0) {
            n[0] = 0;
            n[1] = 47;
        }
        return new Call(kind, n, random.nextBoolean());
    }

    private Kind drawKind(int k) {
        if (wide && k < LAST_TO_MAKE && random.nextInt(12) != 0) {
            return WIDENING[random.nextInt(WIDENING.length)];
        }
        Kind kind = Kind.values()[random.nextInt(17)];
        boolean flattens = kind == Kind.CONSTANT && random.nextInt(8) != 0;
        if (flattens || kind.makes() && k >= LAST_TO_MAKE) {
            return Kind.values()[9 + random.nextInt(8)];
        }
        return kind;
    }

    /** Mostly a number that is right for its place; now and then any near the edges. */
    private int drawNumber(char sort) {
        if (random.nextInt(200) == 0) {
            int[] odd = {-1, 9, 10, 15, 16, 47, 48, 1023, 1024, Integer.MIN_VALUE, Integer.MAX_VALUE};
            return odd[random.nextInt(odd.length)];
        }
        switch (sort) {
            case 's': return random.nextInt(slotsUsed);
            case 'h': return wide && random.nextInt(4) != 0 ? Checks.XOR : random.nextInt(16);
            case 't': return random.nextInt(1024) & random.nextInt(1024) & random.nextInt(1024);
            default: return random.nextInt(Kind.most(sort) + 1);
        }
    }

    private void oneCall(String what, Call call) {
        long want = modelAnswer(call);
        if (call.kind.makes()) {
            making.add(call);
        }
        if (call.kind == Kind.SIZES) {
            largest = Math.max(largest, (int) want);
        }
        Checks.due(what + ", " + call.kind + " " + Arrays.toString(call.n) + " " + call.flag,
                call.on(desk), want);
    }

    private void compareTables(String what) {
        for (int s = 0; s < slotsUsed; s++) {
            boolean[] table = model[s];
            Checks.dueTable(what + ", slot " + s, d -> {
                for (Call call : making) {
                    call.on(d);
                }
            }, s, x -> table[x]);
        }
    }

    private long modelAnswer(Call call) {
        String places = call.kind.places;
        for (char refused : new char[] {'s', 'v', 'h', 't', 'p'}) {
            for (int place = 0; place < places.length(); place++) {
                if (places.charAt(place) == refused && !Kind.isAsSaid(refused, call.n[place])) {
                    return refused == 's' ? Kind.NO_SLOT : Kind.NOT_AS_SAID;
                }
            }
        }
        return call.kind.makes() ? modelMakes(call) : modelTells(call.kind, call.n);
    }

    private long modelMakes(Call call) {
        if (call.kind == Kind.NEAREST && leastFrom(model[call.n[2]], 0) < 0) {
            return Kind.NOT_AS_SAID;
        }
        boolean[] made = new boolean[1024];
        for (int x = 0; x < 1024; x++) {
            made[x] = madeTruth(call.kind, call.n, call.flag, x);
        }
        model[call.n[0]] = made;
        return Kind.MADE;
    }

    private boolean madeTruth(Kind kind, int[] n, boolean flag, int x) {
        boolean[] a = model[n[1]];
        switch (kind) {
            case CONSTANT: return flag;
            case VARIABLE: return Checks.has(x, n[1]);
            case JOIN: return (n[3] >> ((a[x] ? 2 : 0) + (model[n[2]][x] ? 1 : 0)) & 1) == 1;
            case CHOOSE: return a[x] ? model[n[2]][x] : model[n[3]][x];
            case FIX: return a[Checks.with(x, n[2], flag)];
            case SOME: return quantified(a, n[2], flag, x);
            case PUT: return a[Checks.with(x, n[2], model[n[3]][x])];
            case SWAP: return a[swapped(x, n[2], n[3])];
            case NEAREST: return a[nearestTo(model[n[2]], x)];
            default: throw new AssertionError(kind);
        }
    }

    private static int swapped(int x, int v, int w) {
        return Checks.with(Checks.with(x, v, Checks.has(x, w)), w, Checks.has(x, v));
    }

    private static boolean quantified(boolean[] a, int set, boolean every, int x) {
        for (int y = 0; y < 1024; y++) {
            if ((y & ~set) == (x & ~set) && a[y] != every) {
                return !every;
            }
        }
        return every;
    }

    private static int nearestTo(boolean[] c, int x) {
        int best = -1;
        for (int y = 0; y < 1024; y++) {
            if (c[y] && (best < 0 || (y ^ x) < (best ^ x))) {
                best = y;
            }
        }
        return best;
    }

    private long modelTells(Kind kind, int[] n) {
        boolean[] a = model[n[0]];
        switch (kind) {
            case IS_SAME: return Arrays.equals(a, model[n[1]]) ? 1 : 0;
            case TRUTH: return a[n[1]] ? 1 : 0;
            case COUNT: return countOf(a);
            case NEXT: return leastFrom(a, n[1]);
            case DEPENDS: return dependsOn(a);
            case SIZE: return nodesOf(n[0], n[0]).size();
            case SIZES: return n[0] > n[1] ? Kind.NOT_AS_SAID : nodesOf(n[0], n[1]).size();
            case LEVEL: return toldBy(n[0], n[1]);
            default: throw new AssertionError(kind);
        }
    }

    private static int countOf(boolean[] a) {
        int points = 0;
        for (boolean truth : a) {
            points += truth ? 1 : 0;
        }
        return points;
    }

    private static int leastFrom(boolean[] a, int from) {
        for (int x = from; x < 1024; x++) {
            if (a[x]) {
                return x;
            }
        }
        return -1;
    }

    private static int dependsOn(boolean[] a) {
        int set = 0;
        for (int v = 0; v < 10; v++) {
            if (dependsOn(a, v)) {
                set |= Checks.bitOf(v);
            }
        }
        return set;
    }

    private int toldBy(int slot, int v) {
        int told = 0;
        for (String node : nodesOf(slot, slot)) {
            told += node.charAt(0) == '0' + v ? 1 : 0;
        }
        return told;
    }

    /** The functions that are nodes, each written as its first variable and its truths. */
    private Set<String> nodesOf(int from, int to) {
        Set<String> nodes = new HashSet<>();
        for (int s = from; s <= to; s++) {
            addNodes(model[s], 0, nodes);
        }
        return nodes;
    }

    /** What is fixed so far leaves a function that depends on no variable before the first one. */
    private static void addNodes(boolean[] f, int from, Set<String> nodes) {
        int v = from;
        while (v < 10 && !dependsOn(f, v)) {
            v++;
        }
        if (v == 10) {
            return;
        }
        char[] text = new char[1025];
        text[0] = (char) ('0' + v);
        for (int x = 0; x < 1024; x++) {
            text[x + 1] = f[x] ? '1' : '0';
        }
        if (nodes.add(new String(text))) {
            addNodes(fixed(f, v, false), v + 1, nodes);
            addNodes(fixed(f, v, true), v + 1, nodes);
        }
    }

    private static boolean dependsOn(boolean[] f, int v) {
        for (int x = 0; x < 1024; x++) {
            if (f[Checks.with(x, v, false)] != f[Checks.with(x, v, true)]) {
                return true;
            }
        }
        return false;
    }

    private static boolean[] fixed(boolean[] f, int v, boolean truth) {
        boolean[] g = new boolean[1024];
        for (int x = 0; x < 1024; x++) {
            g[x] = f[Checks.with(x, v, truth)];
        }
        return g;
    }
}
