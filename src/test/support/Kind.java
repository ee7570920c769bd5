/** The calls of the face, by what stands at the places of their numbers. */
enum Kind {
    CONSTANT("s"),
    VARIABLE("sv"),
    JOIN("sssh"),
    CHOOSE("ssss"),
    FIX("ssv"),
    SOME("sst"),
    PUT("ssvs"),
    SWAP("ssvv"),
    NEAREST("sss"),
    IS_SAME("ss"),
    TRUTH("sp"),
    COUNT("s"),
    NEXT("sp"),
    DEPENDS("s"),
    SIZE("s"),
    SIZES("ss"),
    LEVEL("sv");

    /** What answer() tells for a call that throws, or for one that answers nothing. */
    static final long NO_SLOT = -1001;
    static final long NOT_AS_SAID = -1002;
    static final long THROWS_OTHER = -1003;
    static final long MADE = -1004;

    /** s a slot, v a variable, h a how, t a set, p a point. */
    final String places;

    Kind(String places) {
        this.places = places;
    }

    boolean makes() {
        return compareTo(NEAREST) <= 0;
    }

    static boolean isAsSaid(char sort, int number) {
        return number >= 0 && number <= most(sort);
    }

    /** The greatest number that the document has at such a place. */
    static int most(char sort) {
        switch (sort) {
            case 's': return 47;
            case 'v': return 9;
            case 'h': return 15;
            default: return 1023;
        }
    }

    /** What the desk answers; a boolean counts 1 or 0. */
    long answer(FunctionDesk desk, int[] n, boolean flag) {
        try {
            if (makes()) {
                make(desk, n, flag);
                return MADE;
            }
            return tell(desk, n);
        } catch (RuntimeException e) {
            // The very class: the machine's own exceptions are below those of the document.
            if (e.getClass() == IndexOutOfBoundsException.class) {
                return NO_SLOT;
            }
            return e.getClass() == IllegalArgumentException.class ? NOT_AS_SAID : THROWS_OTHER;
        }
    }

    private void make(FunctionDesk desk, int[] n, boolean flag) {
        switch (this) {
            case CONSTANT: desk.constant(n[0], flag); break;
            case VARIABLE: desk.variable(n[0], n[1]); break;
            case JOIN: desk.join(n[0], n[1], n[2], n[3]); break;
            case CHOOSE: desk.choose(n[0], n[1], n[2], n[3]); break;
            case FIX: desk.fix(n[0], n[1], n[2], flag); break;
            case SOME: desk.some(n[0], n[1], n[2], flag); break;
            case PUT: desk.put(n[0], n[1], n[2], n[3]); break;
            case SWAP: desk.swap(n[0], n[1], n[2], n[3]); break;
            case NEAREST: desk.nearest(n[0], n[1], n[2]); break;
            default: throw new AssertionError(this);
        }
    }

    private long tell(FunctionDesk desk, int[] n) {
        switch (this) {
            case IS_SAME: return desk.isSame(n[0], n[1]) ? 1 : 0;
            case TRUTH: return desk.truth(n[0], n[1]) ? 1 : 0;
            case COUNT: return desk.count(n[0]);
            case NEXT: return desk.next(n[0], n[1]);
            case DEPENDS: return desk.depends(n[0]);
            case SIZE: return desk.size(n[0]);
            case SIZES: return desk.sizes(n[0], n[1]);
            case LEVEL: return desk.level(n[0], n[1]);
            default: throw new AssertionError(this);
        }
    }
}
