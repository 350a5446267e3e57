import java.util.Arrays;

/** An object to try, called with doubles and floats in place of their BITS. */
final class Bench {
    static final int X = 0, Y = 1, U = 2, V = 3, M = 4, R = 5;
    static final int GX = 0, GY = 1, DRAG = 2, DT = 3, WALL = 4, BACK = 5;
    static final int ADD = 0, SUBTRACT = 1, MULTIPLY = 2, DIVIDE = 3, REMAINDER = 4, ROOT = 5, NEGATE = 6, TO_FLOAT = 7;
    static final int FLOAT_ADD = 8, FLOAT_SUBTRACT = 9, FLOAT_MULTIPLY = 10, FLOAT_DIVIDE = 11, FLOAT_REMAINDER = 12;
    static final int LESS = 13, GREATER = 14;
    static final int BODIES = 8, BODY_NUMBERS = 6, FIELD_NUMBERS = 6, STORES = 8;
    // Where the parts of state() begin.
    static final int FIELD_AT = BODIES * BODY_NUMBERS, STORES_AT = FIELD_AT + FIELD_NUMBERS, ENERGY_AT = STORES_AT + STORES;

    static final double INFINITE = Double.POSITIVE_INFINITY;
    static final double NONE = Double.NaN;
    static final double LEAST = Double.MIN_VALUE;
    static final double NORMAL = Double.MIN_NORMAL;
    static final double MOST = Double.MAX_VALUE;

    final MotionLab lab = new MotionLab();
    private final Check check;

    Bench(Check check) {
        this.check = check;
    }

    /** Numbers outside of 0 to end - 1: the next ones, those that wrap around to a right one, the last ones. */
    static int[] outside(int end) {
        return new int[] {-1, end, -2, end + 1, -end, 1 << 8, 1 << 16, 1 << 28, 1 << 29, 1 << 30,
            Integer.MIN_VALUE, Integer.MIN_VALUE + 1, Integer.MAX_VALUE, Integer.MAX_VALUE - end};
    }

    void set(int body, int what, double d) {
        check.due("body(" + body + ", " + what + ", " + d + ")", lab.body(body, what, Check.bits(d)), 0);
    }

    void setField(int what, double d) {
        check.due("field(" + what + ", " + d + ")", lab.field(what, Check.bits(d)), 0);
    }

    int addSpring(int i, int j, float k, float l, float c) {
        return lab.spring(i, j, Check.bits(k), Check.bits(l), Check.bits(c));
    }

    void step(int n) {
        check.due("step(" + n + ")", lab.step(n), 0);
    }

    void due(int body, int what, double want) {
        check.due("tell(" + body + ", " + what + ")", lab.tell(body, what), want);
    }

    void fieldDue(int what, double want) {
        check.due("about(" + what + ")", lab.about(what), want);
    }

    void keep(int k, double d) {
        check.due("keep(" + k + ", " + d + ")", lab.keep(k, Check.bits(d)), 0);
    }

    /** The BITS of a store: the less of it and itself, put where it is. */
    long store(int k) {
        return lab.reckon(LESS, k, k, k);
    }

    void storeDue(int k, double want) {
        check.due("store " + k, store(k), want);
    }

    /** All that can be told, but the springs, which only the energy tells of. */
    long[] state() {
        long[] state = new long[ENERGY_AT + 1];
        int n = 0;
        for (int body = 0; body < BODIES; body++) {
            for (int what = 0; what < BODY_NUMBERS; what++) {
                state[n++] = lab.tell(body, what);
            }
        }
        for (int what = 0; what < FIELD_NUMBERS; what++) {
            state[n++] = lab.about(what);
        }
        for (int k = 0; k < STORES; k++) {
            state[n++] = store(k);
        }
        state[n] = lab.energy();
        return state;
    }

    void unchanged(String call, long[] before) {
        unchanged(call, before, 0, before.length);
    }

    /** Looks at a part of the state only. */
    void unchanged(String call, long[] before, int from, int end) {
        check.isTrue(call + " changes nothing", Arrays.equals(before, from, end, state(), from, end));
    }

    /** Gives every body, the field and every store a number of its own, and two springs. */
    void fill() {
        for (int body = 0; body < BODIES; body++) {
            for (int what = 0; what < BODY_NUMBERS; what++) {
                set(body, what, 1.5 + body + what * 16.25);
            }
        }
        for (int what = 0; what < FIELD_NUMBERS; what++) {
            setField(what, 0.25 + what);
        }
        for (int k = 0; k < STORES; k++) {
            keep(k, k - 3.75);
        }
        addSpring(0, 7, 1.5f, 2.5f, 3.5f);
        addSpring(7, 6, 4.5f, 5.5f, 6.5f);
    }
}
