/** What is due, and functions to try it on. An object is never asked beyond its 512 calls. */
final class Checks {
    static final int AND = 8;
    static final int OR = 14;
    static final int XOR = 6;
    static final int FIRST_ONE = 12;
    static final int NOT_FIRST = 3;

    // A desk is built anew for each so many of a table's points.
    private static final int POINTS_ASKED = 128;

    // The constant slots of a desk with constants.
    static final int EMPTY = 30;
    static final int FULL = 31;

    static final int TANGLED_DESK_CALLS = 88;

    private static int wrong = 0;

    private Checks() {
    }

    interface Build {
        void on(FunctionDesk desk);
    }

    interface Truths {
        boolean at(int point);
    }

    static void due(String what, long got, long want) {
        if (got != want) {
            tell(what, got, want);
        }
    }

    static void due(String what, boolean got, boolean want) {
        if (got != want) {
            tell(what, got, want);
        }
    }

    static void due(String what, String got, String want) {
        if (!got.equals(want)) {
            tell(what, got, want);
        }
    }

    private static void tell(String what, Object got, Object want) {
        wrong++;
        System.out.println(what + ": answered " + got + ", due is " + want);
    }

    static int wrongSoFar() {
        return wrong;
    }

    /** Ends the test with exit code 1 if an answer was not as due. */
    static void end() {
        System.exit(wrong == 0 ? 0 : 1);
    }

    /** Slot s of a desk so built has these truths, point by point. */
    static void dueTable(String what, Build build, int s, Truths want) {
        for (int from = 0; from < 1024; from += POINTS_ASKED) {
            FunctionDesk desk = new FunctionDesk();
            build.on(desk);
            for (int point = from; point < from + POINTS_ASKED; point++) {
                due(what + ", at " + point, desk.truth(s, point), want.at(point));
            }
        }
    }

    static int bitOf(int v) {
        return 512 >> v;
    }

    static boolean has(int point, int v) {
        return (point & bitOf(v)) != 0;
    }

    static int with(int point, int v, boolean truth) {
        return truth ? point | bitOf(v) : point & ~bitOf(v);
    }

    /** A desk with variable v in slot v, all others false. */
    static FunctionDesk variables() {
        FunctionDesk desk = new FunctionDesk();
        putVariables(desk);
        return desk;
    }

    static void putVariables(FunctionDesk desk) {
        for (int v = 0; v < 10; v++) {
            desk.variable(v, v);
        }
    }

    /** Slot s becomes true for one point alone; the variables are in slots 0 .. 9. */
    static void onePoint(FunctionDesk desk, int s, int point) {
        desk.constant(s, true);
        for (int v = 0; v < 10; v++) {
            desk.join(s, s, v, has(point, v) ? AND : 4);
        }
    }

    /** Slots 0 .. 9 become functions of all the variables, no two the same (50 calls). */
    static void putTangles(FunctionDesk desk) {
        putVariables(desk);
        for (int k = 0; k < 40; k++) {
            int s = k % 10;
            int shift = k / 10;
            if (k % 2 == 0) {
                desk.choose(s, (s + 3) % 10, (s + 4 + shift) % 10, s);
            } else {
                desk.join(s, s, (s + 6 + shift) % 10, XOR);
            }
        }
    }

    /** A desk without constant slots: slot s has what slot s % 10 has (88 calls). */
    static FunctionDesk tangledDesk() {
        FunctionDesk desk = new FunctionDesk();
        putTangles(desk);
        for (int s = 10; s < 48; s++) {
            desk.join(s, s % 10, s % 10, FIRST_ONE);
        }
        return desk;
    }

    /** A tangled desk but for one slot that is false and one that is true for all points. */
    static FunctionDesk deskWithConstants() {
        FunctionDesk desk = tangledDesk();
        desk.constant(EMPTY, false);
        desk.constant(FULL, true);
        return desk;
    }
}
