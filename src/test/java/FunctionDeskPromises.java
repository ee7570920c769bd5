/**
 * Promises 1 to 18, each with ordinary inputs and with the edges that its own sentences name.
 * Numbers that are refused in every call alike are in FunctionDeskTerms.
 */
public final class FunctionDeskPromises {
    private static final int EMPTY = Checks.EMPTY;
    private static final int FULL = Checks.FULL;
    private static final int MADE = 40;
    private static final int MADE_TOO = 41;

    // The first and the last point, and those beside them and beside the ends of words.
    private static final int[] EDGE_POINTS = {0, 1, 62, 63, 64, 65, 511, 512, 959, 960, 1022, 1023};

    public static void main(String[] args) {
        allSlotsAreFalse();
        objectsAreApart();
        constantForAllPoints();
        variableForAllPoints();
        joinWithEachHow();
        chooseBetweenTwo();
        chooseByEmptyAndFull();
        fixToEachTruth();
        someOfNoVariable();
        someOfAllVariables();
        someOfOneVariable();
        someOfSeveral();
        putAFunction();
        putConstants();
        putWhatReadsTheVariable();
        swapOfOneVariable();
        swapOfEachPair();
        nearestWithoutAPoint();
        nearestOfOnePoint();
        nearestOfAllPoints();
        nearestIsByXor();
        isSameButForOnePoint();
        truthOfOnePoint();
        countOfNoneToAll();
        nextIsNotBelow();
        nextGoesThroughAll();
        nextWithoutOne();
        dependsOnNoneToAll();
        sizeOfPairsFarApart();
        sizeOfTheGreatestDiagram();
        sizesOfOneSlot();
        sizesWhenFromIsAboveTo();
        sizesOfEmptySlots();
        sizesOfTheFullestDesk();
        levelsAreTheWhole();
        Checks.end();
    }

    private static void allSlotsAreFalse() {
        FunctionDesk desk = new FunctionDesk();
        for (int s = 0; s < 48; s++) {
            Checks.due("at first: count of " + s, desk.count(s), 0);
            Checks.due("at first: next of " + s, desk.next(s, 0), -1);
            Checks.due("at first: depends of " + s, desk.depends(s), 0);
            Checks.due("at first: size of " + s, desk.size(s), 0);
            Checks.due("at first: level of " + s, desk.level(s, 9), 0);
            Checks.due("at first: slot 0 and " + s, desk.isSame(0, s), true);
            Checks.due("at first: nearest of slot " + s,
                    Kind.NEAREST.answer(desk, new int[] {0, 0, s}, false), Kind.NOT_AS_SAID);
        }
        Checks.due("at first: sizes", desk.sizes(0, 47), 0);
        Checks.dueTable("at first: slot 0", d -> { }, 0, x -> false);
        Checks.dueTable("at first: slot 47", d -> { }, 47, x -> false);
    }

    private static void objectsAreApart() {
        FunctionDesk first = Checks.tangledDesk();
        FunctionDesk second = new FunctionDesk();
        Checks.due("a second object is false at first", second.count(3), 0);
        second.constant(3, true);
        Checks.due("a first object is apart from it", first.isSame(3, 13), true);
    }

    private static void constantForAllPoints() {
        Checks.dueTable("constant true", d -> d.constant(0, true), 0, x -> true);
        Checks.dueTable("constant false over true", d -> {
            d.constant(47, true);
            d.constant(47, false);
        }, 47, x -> false);
        Checks.dueTable("constant true over true", d -> {
            d.constant(5, true);
            d.constant(5, true);
        }, 5, x -> true);
    }

    private static void variableForAllPoints() {
        for (int v = 0; v < 10; v++) {
            int of = v;
            Checks.dueTable("variable " + v, d -> d.variable(47 - of, of), 47 - v,
                    x -> Checks.has(x, of));
        }
    }

    private static void joinWithEachHow() {
        for (int how = 0; how < 16; how++) {
            FunctionDesk desk = Checks.variables();
            desk.join(MADE, 0, 9, how);
            desk.join(MADE_TOO, 0, 0, how);
            for (int bit = 0; bit < 4; bit++) {
                boolean want = (how >> bit & 1) == 1;
                int point = bit / 2 * 512 + bit % 2;
                Checks.due("join, bit " + bit + " of " + how, desk.truth(MADE, point), want);
                Checks.due("join, bit " + bit + " of " + how + ", far", desk.truth(MADE, point + 510), want);
            }
            Checks.due("join, points of how " + how, desk.count(MADE), 256 * Integer.bitCount(how));
            Checks.due("join with itself, false, " + how, desk.truth(MADE_TOO, 511), (how & 1) == 1);
            Checks.due("join with itself, true, " + how, desk.truth(MADE_TOO, 512), how >> 3 == 1);
        }
        Checks.dueTable("join of what is joined", d -> {
            Checks.putVariables(d);
            d.join(MADE, 2, 7, Checks.XOR);
            d.join(MADE, MADE, 5, 2);
        }, MADE, x -> Checks.has(x, 2) == Checks.has(x, 7) && Checks.has(x, 5));
    }

    private static void chooseBetweenTwo() {
        Checks.dueTable("choose", d -> {
            Checks.putVariables(d);
            d.choose(MADE, 8, 1, 5);
        }, MADE, x -> Checks.has(x, 8) ? Checks.has(x, 1) : Checks.has(x, 5));
    }

    private static void chooseByEmptyAndFull() {
        FunctionDesk desk = Checks.deskWithConstants();
        desk.choose(MADE, FULL, 3, 4);
        Checks.due("choose where a is true for all", desk.isSame(MADE, 3), true);
        desk.choose(MADE, EMPTY, 3, 4);
        Checks.due("choose where a is false for all", desk.isSame(MADE, 4), true);
        desk.choose(MADE, 5, FULL, EMPTY);
        Checks.due("choose between true and false", desk.isSame(MADE, 5), true);
        desk.choose(MADE, 5, EMPTY, FULL);
        desk.join(MADE_TOO, 5, 5, Checks.NOT_FIRST);
        Checks.due("choose between false and true", desk.isSame(MADE, MADE_TOO), true);
        desk.choose(MADE, 5, 6, 6);
        Checks.due("choose between one and the same", desk.isSame(MADE, 6), true);
        desk.choose(MADE, 5, 5, 5);
        Checks.due("choose from itself alone", desk.isSame(MADE, 5), true);
    }

    private static void fixToEachTruth() {
        for (int v = 0; v < 10; v++) {
            FunctionDesk desk = Checks.deskWithConstants();
            desk.variable(40, v);
            desk.fix(41, 3, v, false);
            desk.fix(42, 3, v, true);
            Checks.due("fixed to 0: " + v, desk.depends(41) & Checks.bitOf(v), 0);
            Checks.due("fixed to 1: " + v, desk.depends(42) & Checks.bitOf(v), 0);
            desk.choose(43, 40, 42, 41);
            Checks.due("fixed both ways, together again: " + v, desk.isSame(43, 3), true);
            desk.fix(43, 42, v, false);
            Checks.due("fixed once is fixed: " + v, desk.isSame(43, 42), true);
            desk.fix(43, FULL, v, false);
            Checks.due("fix in true for all", desk.count(43), 1024);
            desk.fix(43, EMPTY, v, true);
            Checks.due("fix in false for all", desk.count(43), 0);
            desk.fix(43, 40, v, true);
            Checks.due("fix of the variable itself to 1", desk.count(43), 1024);
            desk.fix(43, 40, v, false);
            Checks.due("fix of the variable itself to 0", desk.count(43), 0);
        }
    }

    private static void someOfNoVariable() {
        FunctionDesk desk = Checks.deskWithConstants();
        for (int s : new int[] {0, 1, 2, EMPTY, FULL}) {
            desk.some(MADE, s, 0, false);
            Checks.due("some of no variable", desk.isSame(MADE, s), true);
            desk.some(MADE, s, 0, true);
            Checks.due("every of no variable", desk.isSame(MADE, s), true);
        }
    }

    private static void someOfAllVariables() {
        for (int point : EDGE_POINTS) {
            FunctionDesk desk = Checks.variables();
            Checks.onePoint(desk, MADE, point);
            desk.join(MADE_TOO, MADE, MADE, Checks.NOT_FIRST);
            someOfAll(desk, MADE, true, false);
            someOfAll(desk, MADE_TOO, true, false);
        }
        someOfAll(Checks.deskWithConstants(), EMPTY, false, false);
        someOfAll(Checks.deskWithConstants(), FULL, true, true);
    }

    private static void someOfAll(FunctionDesk desk, int s, boolean some, boolean every) {
        desk.some(45, s, 1023, false);
        Checks.due("some of all variables", desk.count(45), some ? 1024 : 0);
        desk.some(45, s, 1023, true);
        Checks.due("every of all variables", desk.count(45), every ? 1024 : 0);
    }

    private static void someOfOneVariable() {
        for (int v = 0; v < 10; v++) {
            FunctionDesk desk = Checks.tangledDesk();
            desk.fix(40, 3, v, false);
            desk.fix(41, 3, v, true);
            desk.join(42, 40, 41, Checks.OR);
            desk.some(43, 3, 1 << (9 - v), false);
            Checks.due("some of variable " + v, desk.isSame(43, 42), true);
            desk.join(42, 40, 41, Checks.AND);
            desk.some(43, 3, 1 << (9 - v), true);
            Checks.due("every of variable " + v, desk.isSame(43, 42), true);
        }
    }

    private static void someOfSeveral() {
        for (int v = 0; v < 9; v++) {
            FunctionDesk desk = Checks.tangledDesk();
            int set = Checks.bitOf(v) + Checks.bitOf(v + 1) + Checks.bitOf((v + 5) % 10);
            for (boolean every : new boolean[] {false, true}) {
                desk.some(40, 3, Checks.bitOf((v + 5) % 10), every);
                desk.some(40, 40, Checks.bitOf(v), every);
                desk.some(40, 40, Checks.bitOf(v + 1), every);
                desk.some(41, 3, set, every);
                Checks.due("three variables at once and one by one", desk.isSame(40, 41), true);
                Checks.due("it depends on none of them", desk.depends(41) & set, 0);
            }
        }
    }

    private static void putAFunction() {
        Checks.dueTable("put", d -> {
            Checks.putVariables(d);
            d.join(MADE, 3, 6, Checks.AND);
            d.join(MADE_TOO, 4, 8, Checks.XOR);
            d.put(42, MADE, 3, MADE_TOO);
        }, 42, x -> Checks.has(x, 4) != Checks.has(x, 8) && Checks.has(x, 6));
    }

    private static void putConstants() {
        for (int v = 0; v < 10; v++) {
            FunctionDesk desk = Checks.deskWithConstants();
            desk.put(40, 3, v, EMPTY);
            desk.fix(41, 3, v, false);
            Checks.due("put false for all, variable " + v, desk.isSame(40, 41), true);
            desk.put(40, 3, v, FULL);
            desk.fix(41, 3, v, true);
            Checks.due("put true for all, variable " + v, desk.isSame(40, 41), true);
            desk.put(40, FULL, v, 3);
            Checks.due("put into true for all", desk.count(40), 1024);
            desk.put(40, EMPTY, v, 3);
            Checks.due("put into false for all", desk.count(40), 0);
            desk.put(40, 41, v, 5);
            Checks.due("put for what it does not depend on", desk.isSame(40, 41), true);
        }
    }

    private static void putWhatReadsTheVariable() {
        for (int v = 0; v < 10; v++) {
            FunctionDesk desk = Checks.tangledDesk();
            desk.variable(40, v);
            desk.put(41, 3, v, 40);
            Checks.due("put variable " + v + " for itself", desk.isSame(41, 3), true);
            desk.put(41, 40, v, 3);
            Checks.due("put into variable " + v, desk.isSame(41, 3), true);
            desk.fix(42, 3, v, false);
            desk.fix(43, 3, v, true);
            desk.choose(44, 5, 43, 42);
            desk.put(41, 3, v, 5);
            Checks.due("put what depends on " + v + " too", desk.isSame(41, 44), true);
            desk.choose(44, 3, 43, 42);
            desk.put(41, 3, v, 3);
            Checks.due("put into itself for " + v, desk.isSame(41, 44), true);
        }
    }

    private static void swapOfOneVariable() {
        FunctionDesk desk = Checks.deskWithConstants();
        for (int v = 0; v < 10; v++) {
            for (int s : new int[] {0, 5, 9, EMPTY, FULL}) {
                desk.swap(MADE, s, v, v);
                Checks.due("swap of " + v + " with itself", desk.isSame(MADE, s), true);
            }
        }
    }

    private static void swapOfEachPair() {
        for (int v = 0; v < 10; v++) {
            for (int w = 0; w < 10; w++) {
                if (v != w) {
                    swapOf(v, w);
                }
            }
        }
    }

    private static void swapOf(int v, int w) {
        FunctionDesk desk = Checks.tangledDesk();
        desk.variable(40, v);
        desk.variable(41, w);
        // Fixing v first keeps the second put from reading what the first has put.
        desk.fix(42, 3, v, false);
        desk.fix(43, 3, v, true);
        desk.put(42, 42, w, 40);
        desk.put(43, 43, w, 40);
        desk.choose(44, 41, 43, 42);
        desk.swap(45, 3, v, w);
        Checks.due("swap of " + v + " and " + w, desk.isSame(45, 44), true);
        desk.swap(45, 45, v, w);
        Checks.due("swap twice of " + v + " and " + w, desk.isSame(45, 3), true);
    }

    private static void nearestWithoutAPoint() {
        int[][] calls = {
            {MADE, 3, EMPTY}, {3, 3, EMPTY}, {EMPTY, 3, EMPTY}, {MADE, EMPTY, EMPTY},
            {EMPTY, EMPTY, EMPTY}, {MADE, FULL, EMPTY}
        };
        for (int[] call : calls) {
            FunctionDesk desk = Checks.deskWithConstants();
            Checks.due("IllegalArgumentException when c is false for all",
                    Kind.NEAREST.answer(desk, call, false), Kind.NOT_AS_SAID);
            Checks.due("nearest of no point leaves c", desk.count(EMPTY), 0);
            Checks.due("nearest of no point leaves a", desk.isSame(3, 13), true);
            Checks.due("nearest of no point leaves s", desk.isSame(MADE, 0), true);
        }
        FunctionDesk desk = Checks.tangledDesk();
        desk.join(EMPTY, 3, 3, Checks.XOR);
        Checks.due("c has become false for all",
                Kind.NEAREST.answer(desk, new int[] {MADE, 3, EMPTY}, false), Kind.NOT_AS_SAID);
        desk.nearest(MADE, EMPTY, 3);
        Checks.due("a false for all is as good as any", desk.count(MADE), 0);
    }

    private static void nearestOfOnePoint() {
        for (int point : EDGE_POINTS) {
            nearestTo(point);
        }
        for (int word = 0; word < 16; word++) {
            nearestTo(64 * word + 37);
        }
    }

    private static void nearestTo(int point) {
        FunctionDesk desk = Checks.variables();
        Checks.onePoint(desk, 40, point);
        for (int v = 0; v < 10; v++) {
            desk.nearest(41, v, 40);
            Checks.due("nearest of " + point + " alone, variable " + v, desk.count(41),
                    Checks.has(point, v) ? 1024 : 0);
        }
        desk.join(42, 40, 40, Checks.NOT_FIRST);
        desk.nearest(43, 9, 42);
        Checks.due("nearest of all but " + point + " is a neighbour", desk.truth(43, point), point % 2 == 0);
        desk.join(43, 43, 9, Checks.XOR);
        Checks.due("nearest of all but " + point + ", elsewhere", desk.isSame(43, 40), true);
    }

    private static void nearestOfAllPoints() {
        FunctionDesk desk = Checks.deskWithConstants();
        for (int s = 0; s < 10; s++) {
            desk.nearest(MADE, s, FULL);
            Checks.due("nearest of all points is the point itself", desk.isSame(MADE, s), true);
            desk.nearest(MADE, s, s);
            Checks.due("nearest of its own points", desk.count(MADE), 1024);
        }
    }

    /** By xor 512 is nearer to 1023 than to 511, and 0 and 1023 are no neighbours. */
    private static void nearestIsByXor() {
        nearestOfTwo(511, 1023);
        nearestOfTwo(0, 1023);
        nearestOfTwo(511, 512);
        nearestOfTwo(0, 512);
        nearestOfTwo(63, 64);
        nearestOfTwo(1022, 1023);
        nearestOfTwo(0b0101010101, 0b0101010110);
        nearestOfTwo(0b0011001100, 0b0110011001);
    }

    private static void nearestOfTwo(int low, int high) {
        Checks.dueTable("nearest of " + low + " and " + high, d -> {
            Checks.putVariables(d);
            Checks.onePoint(d, 40, low);
            Checks.onePoint(d, 41, high);
            d.join(42, 40, 41, Checks.OR);
            d.nearest(43, 41, 42);
        }, 43, x -> (x ^ high) < (x ^ low));
    }

    private static void isSameButForOnePoint() {
        FunctionDesk desk = Checks.deskWithConstants();
        Checks.due("isSame of a slot and itself", desk.isSame(47, 47), true);
        Checks.due("isSame of empty and full", desk.isSame(EMPTY, FULL), false);
        desk.join(MADE, 3, 3, Checks.NOT_FIRST);
        Checks.due("isSame of opposites", desk.isSame(MADE, 3), false);
        for (int point : EDGE_POINTS) {
            FunctionDesk other = Checks.variables();
            Checks.onePoint(other, 40, point);
            Checks.due("isSame of empty and point " + point, other.isSame(40, 47), false);
            other.join(41, 5, 40, Checks.XOR);
            Checks.due("isSame but for point " + point, other.isSame(41, 5), false);
            Checks.due("isSame but for point " + point + ", turned", other.isSame(5, 41), false);
            other.join(41, 41, 40, Checks.XOR);
            Checks.due("isSame again at point " + point, other.isSame(41, 5), true);
        }
    }

    private static void truthOfOnePoint() {
        for (int point : EDGE_POINTS) {
            Checks.dueTable("truth of point " + point + " alone", d -> {
                Checks.putVariables(d);
                Checks.onePoint(d, 40, point);
            }, 40, x -> x == point);
        }
    }

    private static void countOfNoneToAll() {
        for (int point : EDGE_POINTS) {
            FunctionDesk desk = Checks.variables();
            Checks.due("count of none", desk.count(40), 0);
            Checks.onePoint(desk, 40, point);
            Checks.due("count of point " + point + " alone", desk.count(40), 1);
            desk.join(41, 40, 40, Checks.NOT_FIRST);
            Checks.due("count of all but " + point, desk.count(41), 1023);
            desk.join(42, 40, 41, Checks.OR);
            Checks.due("count of all", desk.count(42), 1024);
        }
        FunctionDesk desk = Checks.variables();
        desk.constant(40, true);
        for (int v = 0; v < 10; v++) {
            desk.join(40, 40, v, Checks.AND);
            Checks.due("count of variables 0 to " + v, desk.count(40), 512 >> v);
        }
    }

    private static void nextIsNotBelow() {
        for (int point : EDGE_POINTS) {
            FunctionDesk desk = Checks.variables();
            desk.constant(41, true);
            Checks.onePoint(desk, 40, point);
            Checks.due("next of " + point + " from itself", desk.next(40, point), point);
            Checks.due("next of " + point + " from 0", desk.next(40, 0), point);
            Checks.due("next of all from " + point, desk.next(41, point), point);
            desk.join(42, 40, 40, Checks.NOT_FIRST);
            Checks.due("next of all but " + point, desk.next(42, point), point < 1023 ? point + 1 : -1);
            if (point > 0) {
                Checks.due("next of " + point + " from one below", desk.next(40, point - 1), point);
            }
            desk.join(43, 40, 0, Checks.OR);
            Checks.due("the least one of several", desk.next(43, 0), Math.min(point, 512));
        }
    }

    private static void nextGoesThroughAll() {
        FunctionDesk desk = Checks.variables();
        desk.join(40, 3, 9, Checks.AND);
        int point = desk.next(40, 0);
        for (int want = 0; want < 1024; want++) {
            if (Checks.has(want, 3) && Checks.has(want, 9)) {
                Checks.due("going through all points", point, want);
                point = want < 1023 ? desk.next(40, want + 1) : -1;
            }
        }
    }

    private static void nextWithoutOne() {
        for (int point : EDGE_POINTS) {
            FunctionDesk desk = Checks.variables();
            Checks.due("NONE in an empty slot from " + point, desk.next(47, point), FunctionDesk.NONE);
            if (point < 1023) {
                Checks.onePoint(desk, 40, point);
                Checks.due("NONE above " + point + ": it does not begin anew",
                        desk.next(40, point + 1), FunctionDesk.NONE);
                Checks.due("NONE at the end, after " + point, desk.next(40, 1023), FunctionDesk.NONE);
            }
        }
        Checks.due("NONE", FunctionDesk.NONE, -1);
    }

    private static void dependsOnNoneToAll() {
        FunctionDesk desk = Checks.deskWithConstants();
        Checks.due("depends of false for all", desk.depends(EMPTY), 0);
        Checks.due("depends of true for all", desk.depends(FULL), 0);
        desk = Checks.variables();
        int set = 0;
        for (int v = 0; v < 10; v++) {
            desk.join(40, 40, v, Checks.XOR);
            set += 1 << (9 - v);
            Checks.due("depends up to variable " + v, desk.depends(40), set);
        }
        for (int v = 9; v >= 0; v--) {
            desk.join(40, 40, v, Checks.XOR);
            set -= 1 << (9 - v);
            Checks.due("depends no more from variable " + v, desk.depends(40), set);
        }
    }

    /** Variables v and v + 5 both true for some v: the order makes its diagram wide. */
    private static void sizeOfPairsFarApart() {
        FunctionDesk desk = Checks.variables();
        for (int v = 0; v < 5; v++) {
            desk.join(41, v, v + 5, Checks.AND);
            desk.join(40, 40, 41, Checks.OR);
        }
        int[] widths = {1, 2, 4, 8, 16, 16, 8, 4, 2, 1};
        for (int v = 0; v < 10; v++) {
            Checks.due("level of pairs far apart, " + v, desk.level(40, v), widths[v]);
        }
        Checks.due("size of pairs far apart", desk.size(40), 62);
    }

    /**
     * A function with as many nodes as ten variables can have: 128 different functions of
     * variables 7 .. 9, each of which depends on 7, with all 16 of variables 8 and 9 below them.
     */
    private static void sizeOfTheGreatestDiagram() {
        FunctionDesk desk = Checks.variables();
        for (int k = 0; k < 16; k++) {
            desk.join(16 + k, 8, 9, k);
        }
        widest(desk, 0, 0, 32);
        int[] widths = {1, 2, 4, 8, 16, 32, 64, 128, 12, 2};
        for (int v = 0; v < 10; v++) {
            Checks.due("level " + v + " of the greatest diagram", desk.level(32, v), widths[v]);
        }
        Checks.due("size of the greatest diagram", desk.size(32), 269);
        Checks.due("sizes of the greatest diagram", desk.sizes(32, 32), 269);
        Checks.due("size of a variable", desk.size(9), 1);
    }

    /** Slot s becomes the part of that function behind variables 0 .. v - 1, fixed as in prefix. */
    private static void widest(FunctionDesk desk, int v, int prefix, int s) {
        if (v == 7) {
            int low = prefix / 8;
            int high = (low + 1 + prefix % 8) % 16;
            desk.choose(s, 7, 16 + high, 16 + low);
            return;
        }
        widest(desk, v + 1, 2 * prefix, s);
        widest(desk, v + 1, 2 * prefix + 1, s + 1);
        desk.choose(s, v, s + 1, s);
    }

    private static void sizesOfOneSlot() {
        FunctionDesk desk = Checks.deskWithConstants();
        for (int s = 0; s < 48; s++) {
            Checks.due("sizes from " + s + " to itself", desk.sizes(s, s), desk.size(s));
        }
    }

    private static void sizesWhenFromIsAboveTo() {
        for (int[] pair : new int[][] {{1, 0}, {47, 46}, {47, 0}, {24, 23}, {31, 30}}) {
            FunctionDesk desk = Checks.deskWithConstants();
            Checks.due("IllegalArgumentException when from is above to",
                    Kind.SIZES.answer(desk, pair, false), Kind.NOT_AS_SAID);
            Checks.due("IllegalArgumentException when from is above to, of empty slots",
                    Kind.SIZES.answer(new FunctionDesk(), pair, false), Kind.NOT_AS_SAID);
        }
    }

    private static void sizesOfEmptySlots() {
        FunctionDesk desk = new FunctionDesk();
        Checks.due("sizes of all, empty", desk.sizes(0, 47), 0);
        desk.variable(0, 0);
        Checks.due("sizes with the first slot", desk.sizes(0, 47), 1);
        Checks.due("sizes without the first slot", desk.sizes(1, 47), 0);
        desk.variable(47, 9);
        Checks.due("sizes with the last slot", desk.sizes(1, 47), 1);
        Checks.due("sizes without the last slot", desk.sizes(1, 46), 0);
        Checks.due("sizes with both", desk.sizes(0, 47), 2);
    }

    /**
     * 48 functions that have 3072 different functions of variables 6 .. 9, all depending on 6:
     * xor sums of functions of these four variables of which none is a sum of others, one always,
     * six with variables 0 .. 5 and six with the bits of the slot's number.
     */
    private static void sizesOfTheFullestDesk() {
        FunctionDesk desk = Checks.variables();
        for (int k = 0; k < 8; k++) {
            desk.join(10 + k, 8, 9, 1 << k % 4);
            desk.join(10 + k, 10 + k, 7, k < 4 ? 4 : Checks.AND);
            desk.join(18 + k, 10 + k, 6, 4);
        }
        desk.join(30, 25, 25, Checks.FIRST_ONE);
        int[] withVariables = {10, 11, 12, 13, 14, 23};
        for (int v = 0; v < 6; v++) {
            desk.join(31, v, withVariables[v], Checks.AND);
            desk.join(30, 30, 31, Checks.XOR);
        }
        int[] withBits = {18, 19, 20, 21, 22, 24};
        for (int k = 0; k < 6; k++) {
            desk.join(42 + k, withBits[k], withBits[k], Checks.FIRST_ONE);
        }
        fillByBits(desk, 30, 42);
        // Behind variable 6, 30 + 120 functions depend on 7, but 30 + 60 without the sixth bit.
        Checks.due("sizes of the fullest desk", desk.sizes(0, 47), 48 * 127 + 150 + 12 + 2);
        Checks.due("sizes of its first slots", desk.sizes(0, 31), 32 * 127 + 90 + 12 + 2);
        Checks.due("sizes of the fullest desk again", desk.sizes(0, 47), 48 * 127 + 150 + 12 + 2);
    }

    /** Every slot becomes the xor of slot always and of slots bits .. bits + 5 by its number. */
    private static void fillByBits(FunctionDesk desk, int always, int bits) {
        desk.join(0, always, always, Checks.FIRST_ONE);
        for (int s = 1; s < 42; s++) {
            int highest = Integer.highestOneBit(s);
            desk.join(s, s - highest, bits + Integer.numberOfTrailingZeros(highest), Checks.XOR);
        }
        // The last slots held the summands: slots 0 and 32 together still tell the sixth.
        for (int s = 42; s < 48; s++) {
            desk.join(s, s - 32, 0, Checks.XOR);
            desk.join(s, s, 32, Checks.XOR);
        }
    }

    private static void levelsAreTheWhole() {
        FunctionDesk desk = Checks.tangledDesk();
        for (int s = 0; s < 10; s++) {
            int together = 0;
            for (int v = 0; v < 10; v++) {
                together += desk.level(s, v);
            }
            Checks.due("all levels of slot " + s + " together", together, desk.size(s));
            Checks.due("the first level of slot " + s, desk.level(s, 0), 1);
            desk.fix(MADE, s, 9, true);
            Checks.due("the level of variable 9, fixed", desk.level(MADE, 9), 0);
            desk.fix(MADE, s, 0, true);
            Checks.due("the level of variable 0, fixed", desk.level(MADE, 0), 0);
        }
    }
}
