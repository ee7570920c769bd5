import java.util.Arrays;

/**
 * The sentences of the document's "Terms" and of its use for 512 calls, a test for each: which
 * numbers there are, what nodes are, where what is made goes, and which calls are refused.
 */
public final class FunctionDeskTerms {
    private static final int[] NUMBERS_TO_REFUSE = {
        -1, -2, -9, -10, -15, -16, -47, -48, -1023, -1024, 10, 11, 16, 17, 48, 49, 64, 96, 255,
        256, 1024, 1025, 2048, 65535, 65536, 1 << 30, Integer.MAX_VALUE - 1, Integer.MAX_VALUE,
        Integer.MIN_VALUE, Integer.MIN_VALUE + 1
    };
    private static final int[] NO_SLOTS = {-1, 48, Integer.MIN_VALUE, Integer.MAX_VALUE};

    // Slots that the usual numbers of a call do not read.
    private static final int MADE = 20;
    private static final int MADE_TOO = 21;

    public static void main(String[] args) {
        slotsAre0To47();
        numbersAreAsSaid('v', "VARIABLES 0 .. 9");
        numbersAreAsSaid('p', "A POINT is a number 0 .. 1023");
        numbersAreAsSaid('t', "A SET of variables is a number 0 .. 1023");
        numbersAreAsSaid('h', "how, 0 .. 15");
        variable0IsTheHighest();
        setsHaveTheBitsThatPointsHave();
        slotsHaveAFunctionEach();
        dependsIfForSomePoint();
        aConstantOneHasNoNodes();
        anyOtherHasOneNodeAndThoseOfBoth();
        aNodeIsToldByTheFirstVariable();
        nodesOnceHoweverOftenTheyComeUp();
        slotsShareNodes();
        madeInPlaceOfWhatWasThere();
        theSlotMadeMayBeRead();
        aWrongSlotGoesBeforeOtherNumbers();
        aWrongSlotGoesBeforeNoPoint();
        aWrongSlotGoesBeforeFromAboveTo();
        rightCallsFollowRefusedOnes();
        the512thCall();
        Checks.end();
    }

    /** Numbers that each such call takes on a tangled desk. */
    private static int[] usualNumbers(Kind kind) {
        int[] slots = {kind.makes() ? MADE : 3, 4, 5, 6};
        int[] variables = {7, 7, 7, 2};
        int[] n = new int[4];
        for (int place = 0; place < kind.places.length(); place++) {
            switch (kind.places.charAt(place)) {
                case 's': n[place] = slots[place]; break;
                case 'v': n[place] = variables[place]; break;
                case 'h': n[place] = 9; break;
                case 't': n[place] = 0b0100010010; break;
                default: n[place] = 500; break;
            }
        }
        return n;
    }

    private static String written(Kind kind, int[] n) {
        return kind + " " + Arrays.toString(Arrays.copyOf(n, kind.places.length()));
    }

    private static void dueTaken(String sentence, Kind kind, int[] n) {
        long got = kind.answer(Checks.tangledDesk(), n, true);
        boolean refused = got == Kind.NO_SLOT || got == Kind.NOT_AS_SAID || got == Kind.THROWS_OTHER;
        Checks.due(sentence + ": refused " + written(kind, n), refused, false);
    }

    private static void dueRefused(String sentence, Kind kind, int[] n, long refusal) {
        FunctionDesk desk = Checks.tangledDesk();
        Checks.due(sentence + ": " + written(kind, n), kind.answer(desk, n, true), refusal);
        for (int s = 10; s < 48; s++) {
            Checks.due(sentence + ": slot " + s + " and its twin are the same after a refused "
                    + written(kind, n), desk.isSame(s, s % 10), true);
        }
    }

    private static void slotsAre0To47() {
        String sentence = "SLOTS 0 .. 47";
        for (Kind kind : Kind.values()) {
            for (int place = 0; place < kind.places.length(); place++) {
                if (kind.places.charAt(place) == 's') {
                    refuseAll(sentence, kind, place, Kind.NO_SLOT);
                    for (int edge : new int[] {0, 1, 46, 47}) {
                        slotTaken(sentence, kind, place, edge);
                    }
                }
            }
        }
    }

    private static void refuseAll(String sentence, Kind kind, int place, long refusal) {
        for (int number : NUMBERS_TO_REFUSE) {
            if (!Kind.isAsSaid(kind.places.charAt(place), number)) {
                int[] n = usualNumbers(kind);
                n[place] = number;
                dueRefused(sentence, kind, n, refusal);
            }
        }
    }

    private static void slotTaken(String sentence, Kind kind, int place, int edge) {
        int[] n = usualNumbers(kind);
        n[place] = edge;
        if (kind == Kind.SIZES) {
            n[1 - place] = place == 0 ? 47 : 0;
            dueTaken(sentence, kind, n);
            return;
        }
        FunctionDesk desk = Checks.tangledDesk();
        int[] twin = n.clone();
        if (kind.makes()) {
            twin[0] = MADE_TOO;
        }
        if (!kind.makes() || place != 0) {
            twin[place] = edge % 10;
        }
        Checks.due(sentence + ": " + written(kind, n), kind.answer(desk, n, true),
                kind.answer(desk, twin, true));
        if (kind.makes()) {
            Checks.due(sentence + ": made by " + written(kind, n), desk.isSame(n[0], MADE_TOO), true);
        }
    }

    private static void numbersAreAsSaid(char sort, String sentence) {
        for (Kind kind : Kind.values()) {
            for (int place = 0; place < kind.places.length(); place++) {
                if (kind.places.charAt(place) == sort) {
                    refuseAll(sentence, kind, place, Kind.NOT_AS_SAID);
                    int[] n = usualNumbers(kind);
                    for (int edge : new int[] {0, 1, Kind.most(sort) - 1, Kind.most(sort)}) {
                        n[place] = edge;
                        dueTaken(sentence, kind, n);
                    }
                }
            }
        }
    }

    private static void variable0IsTheHighest() {
        FunctionDesk desk = Checks.variables();
        for (int v = 0; v < 10; v++) {
            for (int w = 0; w < 10; w++) {
                Checks.due("variable " + v + " has bit 9 - v, here of point " + (1 << (9 - w)),
                        desk.truth(v, 1 << (9 - w)), v == w);
            }
        }
        Checks.due("variable 0 below its bit", desk.truth(0, 511), false);
        Checks.due("variable 0 at its bit", desk.truth(0, 512), true);
    }

    private static void setsHaveTheBitsThatPointsHave() {
        FunctionDesk desk = Checks.variables();
        for (int v = 0; v < 10; v++) {
            Checks.due("the set of variable " + v, desk.depends(v), 1 << (9 - v));
            for (int w = 0; w < 10; w++) {
                desk.some(MADE, v, 1 << (9 - w), true);
                Checks.due("variable " + v + " for every " + w, desk.count(MADE), v == w ? 0 : 512);
            }
        }
    }

    private static void slotsHaveAFunctionEach() {
        for (int s : new int[] {0, 1, 23, 46, 47}) {
            FunctionDesk desk = new FunctionDesk();
            putParities(desk);
            for (int other = 0; other < 48; other++) {
                Checks.due("a function each: slot " + other, desk.depends(other), other);
            }
            desk.constant(s, true);
            Checks.due("a function each: slot " + s + " made", desk.count(s), 1024);
            for (int other = 0; other < 48; other++) {
                Checks.due("a function each: slot " + other + " when " + s + " is made",
                        desk.depends(other), other == s ? 0 : other);
            }
        }
    }

    /** Each slot becomes the parity of the variables whose set is the slot's own number. */
    private static void putParities(FunctionDesk desk) {
        for (int s = 1; s < 48; s++) {
            int highest = Integer.highestOneBit(s);
            if (s == highest) {
                desk.variable(s, 9 - Integer.numberOfTrailingZeros(s));
            } else {
                desk.join(s, s - highest, highest, Checks.XOR);
            }
        }
    }

    private static void dependsIfForSomePoint() {
        for (int point : new int[] {0, 1, 63, 64, 682, 1023}) {
            for (int v = 0; v < 10; v++) {
                FunctionDesk desk = Checks.variables();
                Checks.onePoint(desk, MADE, point);
                Checks.due("depends, for one point " + point, desk.depends(MADE), 1023);
                desk.some(MADE, MADE, Checks.bitOf(v), false);
                Checks.due("depends on all but " + v + ", for two points", desk.depends(MADE),
                        1023 - Checks.bitOf(v));
            }
        }
    }

    private static void aConstantOneHasNoNodes() {
        noNodes("false", d -> d.constant(MADE, false));
        noNodes("true", d -> d.constant(MADE, true));
        noNodes("join to false", d -> d.join(MADE, 1, 2, 0));
        noNodes("join to true", d -> d.join(MADE, 1, 2, 15));
        noNodes("xor with itself", d -> d.join(MADE, 1, 1, Checks.XOR));
        noNodes("a fixed variable", d -> {
            d.variable(MADE, 9);
            d.fix(MADE, MADE, 9, true);
        });
        noNodes("some of all", d -> d.some(MADE, 3, 1023, false));
        noNodes("every of all", d -> d.some(MADE, 3, 1023, true));
        noNodes("nearest of its own points", d -> d.nearest(MADE, 3, 3));
    }

    private static void noNodes(String what, Checks.Build build) {
        FunctionDesk desk = Checks.tangledDesk();
        build.on(desk);
        Checks.due("a constant has no nodes: size, " + what, desk.size(MADE), 0);
        Checks.due("a constant has no nodes: sizes, " + what, desk.sizes(MADE, MADE), 0);
        for (int v = 0; v < 10; v++) {
            Checks.due("a constant has no nodes: level, " + what, desk.level(MADE, v), 0);
        }
    }

    private static void anyOtherHasOneNodeAndThoseOfBoth() {
        FunctionDesk desk = Checks.tangledDesk();
        for (int s = 0; s < 10; s++) {
            desk.fix(40, s, 0, false);
            desk.fix(41, s, 0, true);
            Checks.due("one node and those of both, slot " + s, desk.size(s), 1 + desk.sizes(40, 41));
        }
        desk = Checks.variables();
        desk.constant(41, true);
        for (int v = 9; v >= 0; v--) {
            // Slots 40 and 41 differ and depend on variables behind v alone.
            desk.choose(42, v, 40, 41);
            Checks.due("one node and those of both, variable " + v, desk.size(42),
                    1 + desk.sizes(40, 41));
            desk.join(41, 40, v, Checks.OR);
            desk.join(40, 42, 42, Checks.FIRST_ONE);
        }
    }

    private static void aNodeIsToldByTheFirstVariable() {
        FunctionDesk desk = Checks.variables();
        for (int v = 0; v < 9; v++) {
            desk.join(MADE, v, 9, Checks.AND);
            for (int w = 0; w < 10; w++) {
                Checks.due("told by the first variable, " + v + " and 9, level " + w,
                        desk.level(MADE, w), w == v || w == 9 ? 1 : 0);
                Checks.due("told by the variable alone, " + v + ", level " + w,
                        desk.level(v, w), w == v ? 1 : 0);
            }
        }
    }

    private static void nodesOnceHoweverOftenTheyComeUp() {
        FunctionDesk desk = Checks.variables();
        for (int v = 9; v >= 0; v--) {
            desk.join(MADE, MADE, v, Checks.XOR);
            Checks.due("nodes once: parity from " + v, desk.size(MADE), 2 * (9 - v) + 1);
        }
        desk.join(40, 8, 9, Checks.AND);
        desk.join(41, 0, 40, Checks.AND);
        desk.choose(42, 1, 40, 41);
        Checks.due("nodes once: one function below two others", desk.size(42), 4);
        Checks.due("nodes once: by the last variable", desk.level(42, 9), 1);
    }

    private static void slotsShareNodes() {
        FunctionDesk desk = Checks.tangledDesk();
        Checks.due("slots share nodes: each function more than once", desk.sizes(0, 47),
                desk.sizes(0, 9));
        for (int s = 0; s < 47; s++) {
            desk.join(s, 47, 47, Checks.FIRST_ONE);
        }
        Checks.due("slots share nodes: the same in all", desk.sizes(0, 47), desk.size(47));
        desk.constant(30, true);
        desk.constant(31, false);
        Checks.due("slots share nodes: with constants", desk.sizes(0, 47), desk.size(47));
        desk.fix(0, 47, 0, true);
        desk.fix(1, 47, 0, false);
        Checks.due("slots share nodes: with its own parts", desk.sizes(0, 47), desk.size(47));
        desk.variable(3, 9);
        desk.variable(4, 8);
        Checks.due("slots share no nodes of different functions", desk.sizes(3, 4), 2);
        desk.join(4, 3, 3, Checks.NOT_FIRST);
        Checks.due("slots share no nodes of opposite functions", desk.sizes(3, 4), 2);
    }

    private static void madeInPlaceOfWhatWasThere() {
        for (Kind kind : Kind.values()) {
            if (kind.makes()) {
                inPlaceOfWhatWasThere(kind);
            }
        }
    }

    private static void inPlaceOfWhatWasThere(Kind kind) {
        FunctionDesk desk = Checks.deskWithConstants();
        int[] n = usualNumbers(kind);
        for (int s : new int[] {MADE, Checks.EMPTY, Checks.FULL}) {
            n[0] = s;
            Checks.due("in place of what was there: " + written(kind, n),
                    kind.answer(desk, n, false), Kind.MADE);
        }
        Checks.due(kind + " in place of false", desk.isSame(Checks.EMPTY, MADE), true);
        Checks.due(kind + " in place of true", desk.isSame(Checks.FULL, MADE), true);
        for (int s = 10; s < 48; s++) {
            if (s != MADE && s != Checks.EMPTY && s != Checks.FULL) {
                Checks.due(kind + " leaves slot " + s, desk.isSame(s, s % 10), true);
            }
        }
    }

    /** Every way in which slots that are read can be the one that is made. */
    private static void theSlotMadeMayBeRead() {
        for (Kind kind : Kind.values()) {
            int ways = kind.makes() ? 1 << kind.places.length() : 0;
            for (int way = 2; way < ways; way += 2) {
                for (int draw = 0; draw < 6; draw++) {
                    readAndMade(kind, way, draw);
                }
            }
        }
    }

    private static void readAndMade(Kind kind, int way, int draw) {
        int[] variables = {0, 3, 4, 9, 6, 8};
        int[] n = usualNumbers(kind);
        for (int place = 1; place < kind.places.length(); place++) {
            switch (kind.places.charAt(place)) {
                case 's': n[place] = (way >> place & 1) == 1 ? 3 : n[place]; break;
                case 'v': n[place] = variables[(draw + place) % 6]; break;
                case 'h': n[place] = 1 + 2 * draw; break;
                default: n[place] = 3 << draw; break;
            }
        }
        FunctionDesk desk = Checks.tangledDesk();
        kind.answer(desk, n, draw % 2 == 0);
        n[0] = 3;
        kind.answer(desk, n, draw % 2 == 0);
        Checks.due("the slot made is read: " + written(kind, n), desk.isSame(3, MADE), true);
        for (int s = 0; s < 10; s++) {
            if (s != 3) {
                Checks.due("slot " + s + " stays: " + written(kind, n), desk.isSame(s, 30 + s), true);
            }
        }
    }

    private static void aWrongSlotGoesBeforeOtherNumbers() {
        String sentence = "IndexOutOfBoundsException for a slot, else IllegalArgumentException";
        for (Kind kind : Kind.values()) {
            for (int place = 0; place < kind.places.length(); place++) {
                if (kind.places.charAt(place) == 's') {
                    for (int wrong : NO_SLOTS) {
                        int[] n = usualNumbers(kind);
                        makeNumbersWrong(kind, n, wrong < 0 ? 1024 : -1);
                        n[place] = wrong;
                        dueRefused(sentence, kind, n, Kind.NO_SLOT);
                    }
                }
            }
        }
    }

    private static void makeNumbersWrong(Kind kind, int[] n, int wrong) {
        for (int place = 0; place < kind.places.length(); place++) {
            if (kind.places.charAt(place) != 's') {
                n[place] = wrong;
            }
        }
    }

    private static void aWrongSlotGoesBeforeNoPoint() {
        for (int wrong : NO_SLOTS) {
            FunctionDesk desk = Checks.deskWithConstants();
            Checks.due("nearest into no slot, of no point",
                    Kind.NEAREST.answer(desk, new int[] {wrong, 1, Checks.EMPTY}, false), Kind.NO_SLOT);
            Checks.due("nearest from no slot, of no point",
                    Kind.NEAREST.answer(desk, new int[] {2, wrong, Checks.EMPTY}, false), Kind.NO_SLOT);
        }
    }

    private static void aWrongSlotGoesBeforeFromAboveTo() {
        int[][] pairs = {
            {48, 0}, {48, 47}, {0, -1}, {47, -1}, {49, 48}, {-1, -2}, {Integer.MAX_VALUE, 0},
            {0, Integer.MIN_VALUE}, {Integer.MAX_VALUE, Integer.MIN_VALUE}
        };
        for (int[] pair : pairs) {
            dueRefused("no slot goes before from above to", Kind.SIZES, pair, Kind.NO_SLOT);
        }
    }

    private static void rightCallsFollowRefusedOnes() {
        FunctionDesk desk = Checks.tangledDesk();
        FunctionDesk untroubled = Checks.tangledDesk();
        for (Kind kind : Kind.values()) {
            int[] n = usualNumbers(kind);
            for (int place = 0; place < kind.places.length(); place++) {
                int right = n[place];
                n[place] = -1;
                kind.answer(desk, n, true);
                n[place] = right;
            }
            Checks.due("after refused calls: " + written(kind, n), kind.answer(desk, n, true),
                    kind.answer(untroubled, n, true));
            Checks.due("after refused calls: size of what " + kind + " made", desk.size(MADE),
                    untroubled.size(MADE));
            Checks.due("after refused calls: points of what " + kind + " made", desk.count(MADE),
                    untroubled.count(MADE));
        }
    }

    /** "at most 512 calls after it has been made": the last of them is as good as any. */
    private static void the512thCall() {
        for (Kind kind : Kind.values()) {
            FunctionDesk used = Checks.tangledDesk();
            FunctionDesk fresh = Checks.tangledDesk();
            int lastButThese = kind.makes() ? 510 : 511;
            for (int call = Checks.TANGLED_DESK_CALLS; call < lastButThese; call++) {
                Kind other = Kind.values()[call % 17];
                int[] n = usualNumbers(other);
                n[0] = other.makes() ? 22 + call % 8 : n[0];
                other.answer(used, n, call % 2 == 0);
            }
            int[] n = usualNumbers(kind);
            Checks.due("the last calls: " + written(kind, n), kind.answer(used, n, true),
                    kind.answer(fresh, n, true));
            if (kind.makes()) {
                Checks.due("the 512th call, for " + kind, used.count(MADE), fresh.count(MADE));
            }
        }
    }
}
