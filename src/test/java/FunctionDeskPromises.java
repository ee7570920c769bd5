/** Each promise by hand: ordinary inputs, the document's edges, wrong inputs. */
public final class FunctionDeskPromises {
    private static final int[] WRONG_SLOTS = {-1, 48, 49, Integer.MIN_VALUE, Integer.MAX_VALUE};
    private static final int[] WRONG_VARIABLES = {-1, 10, 11, Integer.MIN_VALUE, Integer.MAX_VALUE};
    private static final int[] WRONG_POINTS = {-1, 1024, 1025, Integer.MIN_VALUE, Integer.MAX_VALUE};
    private static final int AND = 8;
    private static final int OR = 14;
    private static final int XOR = 6;

    private static int wrong = 0;

    private interface Call {
        void on(FunctionDesk desk);
    }

    public static void main(String[] args) {
        newObject();
        constant();
        variable();
        join();
        choose();
        fix();
        some();
        put();
        swap();
        nearest();
        isSame();
        truth();
        count();
        next();
        depends();
        size();
        sizes();
        level();
        System.exit(wrong == 0 ? 0 : 1);
    }

    private static void due(String what, long got, long want) {
        if (got != want) {
            wrong++;
            System.out.println(what + ": answered " + got + ", due is " + want);
        }
    }

    private static void due(String what, boolean got, boolean want) {
        due(what, got ? 1 : 0, want ? 1 : 0);
    }

    /** The call throws just the class that is due and leaves every slot as it was. */
    private static void throwsOn(FunctionDesk desk, String what, Class<?> want, Call call) {
        boolean[] before = allTruths(desk);
        Class<?> got = null;
        try {
            call.on(desk);
        } catch (RuntimeException e) {
            got = e.getClass();
        }
        if (got != want) {
            wrong++;
            System.out.println(what + ": threw " + got + ", due is " + want);
        }
        due(what + " leaves the slots alone", java.util.Arrays.equals(before, allTruths(desk)), true);
    }

    private static void noSlot(String what, Call call) {
        throwsOn(variables(), what, IndexOutOfBoundsException.class, call);
    }

    private static void notAsSaid(String what, Call call) {
        throwsOn(variables(), what, IllegalArgumentException.class, call);
    }

    private static boolean[] allTruths(FunctionDesk desk) {
        boolean[] all = new boolean[48 * 1024];
        for (int i = 0; i < all.length; i++) {
            all[i] = desk.truth(i / 1024, i % 1024);
        }
        return all;
    }

    /** A desk with variable v in slot v, all others false. */
    private static FunctionDesk variables() {
        FunctionDesk desk = new FunctionDesk();
        for (int v = 0; v < 10; v++) {
            desk.variable(v, v);
        }
        return desk;
    }

    private static boolean bit(int point, int v) {
        return (point >> (9 - v) & 1) == 1;
    }

    private static void newObject() {
        FunctionDesk desk = new FunctionDesk();
        for (int s = 0; s < 48; s++) {
            due("new: count", desk.count(s), 0);
            due("new: size", desk.size(s), 0);
        }
        for (int point = 0; point < 1024; point++) {
            due("new: truth", desk.truth(47, point), false);
        }
        FunctionDesk other = new FunctionDesk();
        other.constant(0, true);
        due("new: objects are apart", desk.count(0), 0);
        due("NONE", FunctionDesk.NONE, -1);
    }

    private static void constant() {
        FunctionDesk desk = variables();
        desk.constant(0, true);
        desk.constant(47, true);
        due("constant true", desk.count(0), 1024);
        due("constant true 47", desk.count(47), 1024);
        due("constant 46 untouched", desk.count(46), 0);
        desk.constant(0, false);
        due("constant false", desk.count(0), 0);
        due("constant leaves others", desk.count(1), 512);
        for (int s : WRONG_SLOTS) {
            noSlot("constant slot", d -> d.constant(s, true));
        }
    }

    private static void variable() {
        FunctionDesk desk = variables();
        for (int v = 0; v < 10; v++) {
            for (int point = 0; point < 1024; point++) {
                due("variable " + v + " at " + point, desk.truth(v, point), bit(point, v));
            }
        }
        desk.variable(0, 9);
        due("variable put in place", desk.next(0, 0), 1);
        for (int s : WRONG_SLOTS) {
            noSlot("variable slot", d -> d.variable(s, 0));
            noSlot("variable slot goes first", d -> d.variable(s, 10));
        }
        for (int v : WRONG_VARIABLES) {
            notAsSaid("variable number", d -> d.variable(0, v));
        }
    }

    private static void join() {
        for (int how = 0; how < 16; how++) {
            FunctionDesk desk = variables();
            desk.join(10, 2, 7, how);
            desk.join(11, 7, 2, how);
            desk.join(7, 2, 7, how);
            for (int point = 0; point < 1024; point++) {
                int p = bit(point, 2) ? 1 : 0;
                int q = bit(point, 7) ? 1 : 0;
                due("join " + how, desk.truth(10, point), (how >> (2 * p + q) & 1) == 1);
                due("join turned " + how, desk.truth(11, point), (how >> (2 * q + p) & 1) == 1);
            }
            due("join into one that is read " + how, desk.isSame(7, 10), true);
            desk.join(2, 2, 2, how);
            due("join with itself " + how, desk.truth(2, 1023), (how >> 3 & 1) == 1);
            due("join with itself, false " + how, desk.truth(2, 0), (how & 1) == 1);
        }
        for (int s : WRONG_SLOTS) {
            noSlot("join s", d -> d.join(s, 0, 0, 0));
            noSlot("join a", d -> d.join(0, s, 0, 0));
            noSlot("join b", d -> d.join(0, 0, s, 0));
            noSlot("join slot goes first", d -> d.join(0, 0, s, 16));
        }
        for (int how : new int[] {-1, 16, 24, Integer.MIN_VALUE, Integer.MAX_VALUE}) {
            notAsSaid("join how", d -> d.join(0, 1, 2, how));
        }
    }

    private static void choose() {
        FunctionDesk desk = variables();
        desk.choose(10, 8, 1, 5);
        for (int point = 0; point < 1024; point++) {
            due("choose", desk.truth(10, point), bit(point, 8) ? bit(point, 1) : bit(point, 5));
        }
        desk.choose(11, 8, 1, 5);
        desk.choose(8, 8, 1, 5);
        due("choose into a", desk.isSame(8, 11), true);
        desk.variable(8, 8);
        desk.choose(1, 8, 1, 5);
        due("choose into b", desk.isSame(1, 11), true);
        desk.variable(1, 1);
        desk.choose(5, 8, 1, 5);
        due("choose into c", desk.isSame(5, 11), true);
        for (int s : WRONG_SLOTS) {
            noSlot("choose s", d -> d.choose(s, 0, 0, 0));
            noSlot("choose a", d -> d.choose(0, s, 0, 0));
            noSlot("choose b", d -> d.choose(0, 0, s, 0));
            noSlot("choose c", d -> d.choose(0, 0, 0, s));
        }
    }

    private static void fix() {
        for (int v = 0; v < 10; v++) {
            FunctionDesk desk = variables();
            int w = (v + 3) % 10;
            desk.join(10, v, w, XOR);
            desk.fix(11, 10, v, false);
            desk.fix(12, 10, v, true);
            desk.join(13, w, w, 1);
            due("fix to 0", desk.isSame(11, w), true);
            due("fix to 1", desk.isSame(12, 13), true);
            desk.fix(14, w, v, true);
            due("fix what it does not depend on", desk.isSame(14, w), true);
            desk.fix(10, 10, v, true);
            due("fix into itself", desk.isSame(10, 13), true);
            desk.fix(v, v, v, true);
            due("fix a variable", desk.count(v), 1024);
        }
        for (int s : WRONG_SLOTS) {
            noSlot("fix s", d -> d.fix(s, 0, 0, true));
            noSlot("fix a", d -> d.fix(0, s, 0, true));
            noSlot("fix slot goes first", d -> d.fix(0, s, -1, true));
        }
        for (int v : WRONG_VARIABLES) {
            notAsSaid("fix variable", d -> d.fix(0, 1, v, false));
        }
    }

    private static void some() {
        FunctionDesk desk = variables();
        desk.join(10, 0, 9, AND);
        desk.some(11, 10, 1, false);
        due("some of the last variable", desk.isSame(11, 0), true);
        desk.some(11, 10, 512, false);
        due("some of the first variable", desk.isSame(11, 9), true);
        desk.some(11, 10, 513, false);
        due("some of both", desk.count(11), 1024);
        desk.some(11, 10, 1, true);
        due("every of the last variable", desk.count(11), 0);
        desk.join(12, 0, 9, OR);
        desk.some(11, 12, 1, true);
        due("every of an or", desk.isSame(11, 0), true);
        desk.some(11, 12, 0, true);
        due("every of no variable", desk.isSame(11, 12), true);
        desk.some(11, 10, 0, false);
        due("some of no variable", desk.isSame(11, 10), true);
        desk.some(11, 10, 510, true);
        due("every of variables it does not depend on", desk.isSame(11, 10), true);
        desk.some(10, 10, 1023, false);
        due("some of all, into itself", desk.count(10), 1024);
        desk.some(10, 10, 1023, true);
        due("every of all of true", desk.count(10), 1024);
        desk.some(12, 12, 1023, true);
        due("every of all, into itself", desk.count(12), 0);
        desk.some(12, 12, 1023, false);
        due("some of all of false", desk.count(12), 0);
        for (int s : WRONG_SLOTS) {
            noSlot("some s", d -> d.some(s, 0, 0, true));
            noSlot("some a", d -> d.some(0, s, 0, true));
            noSlot("some slot goes first", d -> d.some(0, s, 1024, true));
        }
        for (int set : WRONG_POINTS) {
            notAsSaid("some set", d -> d.some(0, 1, set, false));
        }
    }

    private static void put() {
        FunctionDesk desk = variables();
        desk.join(10, 3, 6, AND);
        desk.join(11, 4, 8, XOR);
        desk.put(12, 10, 3, 11);
        for (int point = 0; point < 1024; point++) {
            boolean b = bit(point, 4) != bit(point, 8);
            due("put", desk.truth(12, point), b && bit(point, 6));
        }
        desk.put(13, 10, 6, 3);
        due("put another variable of it", desk.isSame(13, 3), true);
        desk.put(13, 10, 3, 3);
        due("put the variable itself", desk.isSame(13, 10), true);
        desk.join(14, 3, 3, 1);
        desk.put(13, 3, 3, 14);
        due("put its own opposite", desk.isSame(13, 14), true);
        desk.put(13, 14, 3, 14);
        due("put an opposite into itself", desk.isSame(13, 3), true);
        desk.put(13, 10, 0, 11);
        due("put what it does not depend on", desk.isSame(13, 10), true);
        desk.put(11, 10, 3, 11);
        due("put into b", desk.isSame(11, 12), true);
        desk.join(11, 4, 8, XOR);
        desk.put(10, 10, 3, 11);
        due("put into a", desk.isSame(10, 12), true);
        for (int s : WRONG_SLOTS) {
            noSlot("put s", d -> d.put(s, 0, 0, 0));
            noSlot("put a", d -> d.put(0, s, 0, 0));
            noSlot("put b", d -> d.put(0, 0, 0, s));
            noSlot("put slot goes first", d -> d.put(0, 0, 10, s));
        }
        for (int v : WRONG_VARIABLES) {
            notAsSaid("put variable", d -> d.put(0, 1, v, 2));
        }
    }

    private static void swap() {
        for (int v = 0; v < 10; v++) {
            for (int w = 0; w < 10; w++) {
                FunctionDesk desk = variables();
                int other = 0;
                while (other == v || other == w) {
                    other++;
                }
                desk.choose(10, v, other, w);
                desk.choose(11, w, other, v);
                desk.swap(12, 10, v, w);
                due("swap " + v + " " + w, desk.isSame(12, v == w ? 10 : 11), true);
                desk.swap(10, 10, w, v);
                due("swap into itself " + v + " " + w, desk.isSame(12, 10), true);
            }
        }
        for (int s : WRONG_SLOTS) {
            noSlot("swap s", d -> d.swap(s, 0, 0, 1));
            noSlot("swap a", d -> d.swap(0, s, 0, 1));
            noSlot("swap slot goes first", d -> d.swap(0, s, 0, 10));
        }
        for (int v : WRONG_VARIABLES) {
            notAsSaid("swap v", d -> d.swap(0, 1, v, 0));
            notAsSaid("swap w", d -> d.swap(0, 1, 0, v));
            notAsSaid("swap both", d -> d.swap(0, 1, v, v));
        }
    }

    private static void nearest() {
        FunctionDesk desk = variables();
        desk.constant(10, true);
        desk.nearest(11, 4, 10);
        due("nearest of all points", desk.isSame(11, 4), true);
        desk.nearest(11, 4, 4);
        due("nearest of its own points", desk.count(11), 1024);
        desk.join(12, 4, 4, 1);
        desk.nearest(11, 4, 12);
        due("nearest of its opposite's points", desk.count(11), 0);
        onePoint(desk, 20, 0b0111111111);
        onePoint(desk, 21, 0b1111111111);
        onePoint(desk, 22, 0b0000000010);
        desk.join(23, 20, 21, OR);
        desk.join(23, 23, 22, OR);
        desk.nearest(24, 20, 23);
        due("nearest to 511 up to 511", desk.count(24), 256);
        due("nearest to 511 begins", desk.next(24, 0), 256);
        due("nearest to 511 ends", desk.next(24, 512), -1);
        desk.nearest(24, 21, 23);
        due("nearest to 1023: the highest bit weighs most", desk.next(24, 0), 512);
        due("nearest to 1023 counts", desk.count(24), 512);
        desk.nearest(23, 22, 23);
        due("nearest into c", desk.count(23), 256);
        due("nearest to 2 begins", desk.next(23, 0), 0);
        desk.nearest(22, 22, 20);
        due("nearest into a", desk.count(22), 0);
        for (int point = 0; point < 1024; point += 31) {
            FunctionDesk single = variables();
            onePoint(single, 20, point);
            single.nearest(21, 6, 20);
            due("nearest of one point " + point, single.count(21), bit(point, 6) ? 1024 : 0);
        }
        for (int s : WRONG_SLOTS) {
            noSlot("nearest s", d -> d.nearest(s, 0, 1));
            noSlot("nearest a", d -> d.nearest(0, s, 1));
            noSlot("nearest c", d -> d.nearest(0, 1, s));
            noSlot("nearest slot goes first", d -> d.nearest(s, 0, 47));
        }
        notAsSaid("nearest of no point", d -> d.nearest(0, 1, 47));
        notAsSaid("nearest of no point, all one", d -> d.nearest(47, 47, 47));
    }

    /** Slot s becomes true for one point alone; uses slot 47. */
    private static void onePoint(FunctionDesk desk, int s, int point) {
        desk.constant(s, true);
        for (int v = 0; v < 10; v++) {
            desk.variable(47, v);
            desk.join(s, s, 47, bit(point, v) ? 8 : 4);
        }
    }

    private static void isSame() {
        FunctionDesk desk = variables();
        due("isSame of one", desk.isSame(3, 3), true);
        due("isSame of two", desk.isSame(3, 4), false);
        for (int point : new int[] {0, 63, 64, 500, 1023}) {
            onePoint(desk, 20, point);
            desk.join(21, 5, 20, XOR);
            due("isSame but for a point", desk.isSame(21, 5), false);
            desk.join(21, 21, 20, XOR);
            due("isSame again", desk.isSame(21, 5), true);
        }
        for (int s : WRONG_SLOTS) {
            noSlot("isSame a", d -> d.isSame(s, 0));
            noSlot("isSame b", d -> d.isSame(0, s));
        }
    }

    private static void truth() {
        FunctionDesk desk = variables();
        for (int point : new int[] {0, 1, 63, 64, 511, 512, 1022, 1023}) {
            onePoint(desk, 20, point);
            for (int other = 0; other < 1024; other++) {
                due("truth at " + other + " of point " + point, desk.truth(20, other), other == point);
            }
        }
        for (int s : WRONG_SLOTS) {
            noSlot("truth slot", d -> d.truth(s, 0));
            noSlot("truth slot goes first", d -> d.truth(s, 1024));
        }
        for (int point : WRONG_POINTS) {
            notAsSaid("truth point", d -> d.truth(0, point));
        }
    }

    private static void count() {
        FunctionDesk desk = variables();
        desk.constant(20, true);
        for (int v = 0; v < 10; v++) {
            desk.join(20, 20, v, AND);
            due("count of an and", desk.count(20), 1024 >> (v + 1));
        }
        desk.join(21, 20, 20, 1);
        due("count of its opposite", desk.count(21), 1023);
        for (int s : WRONG_SLOTS) {
            noSlot("count slot", d -> d.count(s));
        }
    }

    private static void next() {
        FunctionDesk desk = variables();
        for (int point : new int[] {0, 1, 62, 63, 64, 65, 127, 128, 1022, 1023}) {
            onePoint(desk, 20, point);
            for (int from = 0; from < 1024; from++) {
                due("next of " + point, desk.next(20, from), from <= point ? point : -1);
            }
        }
        desk.constant(21, true);
        for (int from = 0; from < 1024; from++) {
            due("next of all", desk.next(21, from), from);
            due("next of none", desk.next(46, from), FunctionDesk.NONE);
        }
        for (int s : WRONG_SLOTS) {
            noSlot("next slot", d -> d.next(s, 0));
            noSlot("next slot goes first", d -> d.next(s, -1));
        }
        for (int point : WRONG_POINTS) {
            notAsSaid("next point", d -> d.next(0, point));
        }
    }

    private static void depends() {
        FunctionDesk desk = variables();
        int set = 0;
        for (int v = 0; v < 10; v++) {
            due("depends of a variable", desk.depends(v), 1 << (9 - v));
            desk.join(20, 20, v, v % 2 == 0 ? XOR : OR);
            set |= 1 << (9 - v);
            due("depends of more", desk.depends(20), set);
        }
        desk.constant(21, true);
        due("depends of true", desk.depends(21), 0);
        due("depends of false", desk.depends(22), 0);
        for (int point = 0; point < 1024; point += 31) {
            onePoint(desk, 23, point);
            due("depends of one point", desk.depends(23), 1023);
        }
        for (int s : WRONG_SLOTS) {
            noSlot("depends slot", d -> d.depends(s));
        }
    }

    private static void size() {
        FunctionDesk desk = variables();
        desk.constant(21, true);
        due("size of true", desk.size(21), 0);
        due("size of false", desk.size(22), 0);
        for (int v = 0; v < 10; v++) {
            due("size of a variable", desk.size(v), 1);
            desk.join(20, 20, v, XOR);
            due("size of a parity", desk.size(20), 2 * v + 1);
        }
        onePoint(desk, 23, 682);
        due("size of one point", desk.size(23), 10);
        joinFarPairs(desk, 24);
        due("size of pairs far apart", desk.size(24), 62);
        for (int s : WRONG_SLOTS) {
            noSlot("size slot", d -> d.size(s));
        }
    }

    /** Variables v and v + 5 both true for some v: the order makes its diagram wide. */
    private static void joinFarPairs(FunctionDesk desk, int s) {
        desk.constant(s, false);
        for (int v = 0; v < 5; v++) {
            desk.join(46, v, v + 5, AND);
            desk.join(s, s, 46, OR);
        }
    }

    private static void sizes() {
        FunctionDesk desk = variables();
        due("sizes of the variables", desk.sizes(0, 9), 10);
        due("sizes of one slot", desk.sizes(3, 3), 1);
        due("sizes of empty slots", desk.sizes(10, 47), 0);
        due("sizes of all", desk.sizes(0, 47), 10);
        desk.join(10, 8, 9, XOR);
        desk.join(11, 10, 10, 1);
        due("sizes of opposites, halves shared", desk.sizes(10, 11), 4);
        due("sizes share what is the same", desk.sizes(9, 11), 4);
        desk.join(12, 10, 10, 8);
        due("sizes of the same function twice", desk.sizes(10, 12), 4);
        desk.variable(47, 4);
        due("sizes to the last slot", desk.sizes(13, 47), 1);
        due("sizes of the last slot", desk.sizes(47, 47), 1);
        for (int s : WRONG_SLOTS) {
            noSlot("sizes from", d -> d.sizes(s, 47));
            noSlot("sizes to", d -> d.sizes(0, s));
        }
        notAsSaid("sizes turned", d -> d.sizes(1, 0));
        notAsSaid("sizes turned, far", d -> d.sizes(47, 0));
    }

    private static void level() {
        FunctionDesk desk = variables();
        joinFarPairs(desk, 24);
        int[] want = {1, 2, 4, 8, 16, 16, 8, 4, 2, 1};
        for (int v = 0; v < 10; v++) {
            due("level of pairs far apart, " + v, desk.level(24, v), want[v]);
            due("level of a variable", desk.level(5, v), v == 5 ? 1 : 0);
            due("level of false", desk.level(40, v), 0);
        }
        for (int s : WRONG_SLOTS) {
            noSlot("level slot", d -> d.level(s, 0));
            noSlot("level slot goes first", d -> d.level(s, 10));
        }
        for (int v : WRONG_VARIABLES) {
            notAsSaid("level variable", d -> d.level(0, v));
        }
    }
}
