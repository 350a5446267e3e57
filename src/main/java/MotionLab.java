/**
 * Bodies in a plane, pulled, held by springs, thrown back by walls and by each other, and eight
 * stores to reckon with, to the last bit of IEEE 754.
 *
 * <p>The language rules leave no way from a long to the double of its bits, and no number that is
 * none, so no double or float stands in this file: every number is held as the BITS of a double,
 * and {@link Ieee} reckons with them. A float is held as the double of the same value.
 */
public final class MotionLab {
    public static final int REFUSED = -1, NONE = -2, FULL = -3;

    private static final long WRONG = 1;
    private static final long NO_CAST = 1L << 62;
    private static final int STORES = 8;
    private static final int OPS = 15;
    private static final int MOST_STEPS = 20;

    private final Plane plane = new Plane();
    private final long[] stores = new long[STORES];

    public MotionLab() {
    }

    public int body(int body, int what, long bits) {
        if (!Plane.isBody(body) || !Plane.isBodyNumber(what)) {
            return REFUSED;
        }
        plane.setBodyNumber(body, what, bits);
        return 0;
    }

    public int field(int what, long bits) {
        if (!Plane.isFieldNumber(what)) {
            return REFUSED;
        }
        plane.setFieldNumber(what, bits);
        return 0;
    }

    public int spring(int i, int j, int k, int l, int c) {
        if (!Plane.isBody(i) || !Plane.isBody(j) || i == j) {
            return REFUSED;
        }
        if (plane.springs.isFull()) {
            return FULL;
        }
        return plane.springs.add(i, j, Ieee.ofFloatBits(k), Ieee.ofFloatBits(l), Ieee.ofFloatBits(c));
    }

    public int cut() {
        return plane.springs.count == 0 ? NONE : plane.springs.removeLatest();
    }

    public int step(int n) {
        if (n < 0 || n > MOST_STEPS) {
            return REFUSED;
        }
        for (int done = 0; done < n; done++) {
            plane.advance();
        }
        return 0;
    }

    public long tell(int body, int what) {
        if (!Plane.isBody(body) || !Plane.isBodyNumber(what)) {
            return WRONG;
        }
        return plane.bodyNumber(body, what);
    }

    public long about(int what) {
        return Plane.isFieldNumber(what) ? plane.fieldNumber(what) : WRONG;
    }

    public int keep(int k, long bits) {
        if (!isStore(k)) {
            return REFUSED;
        }
        stores[k] = Ieee.told(bits);
        return 0;
    }

    public long reckon(int op, int k, int a, int b) {
        if (op < 0 || op >= OPS || !isStore(k) || !isStore(a) || !isStore(b)) {
            return WRONG;
        }
        stores[k] = result(op, stores[a], stores[b]);
        return stores[k];
    }

    public long whole(int k, int kind, long v) {
        if (!isStore(k) || kind < 0 || kind > 1) {
            return WRONG;
        }
        stores[k] = kind == 0 ? Ieee.ofWhole(v) : Ieee.floatOfWhole(v);
        return stores[k];
    }

    public long cast(int k, int kind) {
        if (!isStore(k)) {
            return NO_CAST;
        }
        switch (kind) {
            case 0:
                return Ieee.toInt(stores[k]);
            case 1:
                return Ieee.toLong(stores[k]);
            case 2:
                return (short) Ieee.toInt(stores[k]);
            case 3:
                return (char) Ieee.toInt(stores[k]);
            case 4:
                return (byte) Ieee.toInt(stores[k]);
            default:
                return NO_CAST;
        }
    }

    public int compare(int a, int b) {
        if (!isStore(a) || !isStore(b)) {
            return REFUSED;
        }
        if (Ieee.isNoNumber(stores[a]) || Ieee.isNoNumber(stores[b])) {
            return 8;
        }
        if (Ieee.less(stores[a], stores[b])) {
            return 1 | 2 | 8;
        }
        return Ieee.less(stores[b], stores[a]) ? 8 | 16 | 32 : 2 | 4 | 16;
    }

    public long energy() {
        return plane.wholeEnergy();
    }

    public long mean(int number, int what) {
        if (!Plane.isBodyNumber(number) || what < 0 || what > 1) {
            return WRONG;
        }
        return plane.meanOrSquares(number, what == 1);
    }

    public long horner(int x) {
        if (!isStore(x)) {
            return WRONG;
        }
        long e = stores[STORES - 1];
        for (int c = STORES - 2; c >= 0; c--) {
            e = Ieee.sum(Ieee.product(e, stores[x]), stores[c]);
        }
        return e;
    }

    public int single(int k) {
        return isStore(k) ? Ieee.floatBits(Ieee.toFloat(stores[k])) : (int) WRONG;
    }

    public long fromSingle(int k, int bits) {
        if (!isStore(k)) {
            return WRONG;
        }
        stores[k] = Ieee.ofFloatBits(bits);
        return stores[k];
    }

    private static boolean isStore(int k) {
        return k >= 0 && k < STORES;
    }

    private static long result(int op, long a, long b) {
        switch (op) {
            case 0:
                return Ieee.sum(a, b);
            case 1:
                return Ieee.difference(a, b);
            case 2:
                return Ieee.product(a, b);
            case 3:
                return Ieee.quotient(a, b);
            case 4:
                return Ieee.remainder(a, b);
            case 5:
                return Ieee.root(a);
            case 6:
                return Ieee.negated(a);
            case 7:
                return Ieee.toFloat(a);
            case 13:
                return Ieee.lesser(a, b);
            case 14:
                return Ieee.greater(a, b);
            default:
                return floatResult(op, Ieee.toFloat(a), Ieee.toFloat(b));
        }
    }

    // A double has at least twice a float's bits and two more, so rounding the double's result once
    // more gives the float nearest to the exact one.
    private static long floatResult(int op, long a, long b) {
        switch (op) {
            case 8:
                return Ieee.toFloat(Ieee.sum(a, b));
            case 9:
                return Ieee.toFloat(Ieee.difference(a, b));
            case 10:
                return Ieee.toFloat(Ieee.product(a, b));
            case 11:
                return Ieee.toFloat(Ieee.quotient(a, b));
            default:
                return Ieee.remainder(a, b);
        }
    }

    /** The bodies, the field and the springs. */
    private static final class Plane {
        static final int BODIES = 8;
        static final int BODY_NUMBERS = 6;
        static final int FIELD_NUMBERS = 6;

        // Where the rows of the bodies' numbers begin: row WHAT begins at WHAT * BODIES, and the
        // forces stand behind all that can be told.
        static final int X = 0;
        static final int Y = 8;
        static final int U = 16;
        static final int V = 24;
        static final int M = 32;
        static final int R = 40;
        static final int FX = 48;
        static final int FY = 56;
        static final int ROWS_END = 64;

        static final int GX = 0;
        static final int GY = 1;
        static final int DRAG = 2;
        static final int DT = 3;
        static final int WALL = 4;
        static final int BACK = 5;

        private final long[] rows = new long[ROWS_END];
        private final long[] field = new long[FIELD_NUMBERS];
        final Springs springs = new Springs();

        Plane() {
            for (int i = 0; i < BODIES; i++) {
                rows[M + i] = Ieee.ONE;
            }
            field[DT] = Ieee.EIGHTH;
            field[WALL] = Ieee.INFINITE;
            field[BACK] = Ieee.ONE;
        }

        static boolean isBody(int body) {
            return body >= 0 && body < BODIES;
        }

        static boolean isBodyNumber(int what) {
            return what >= 0 && what < BODY_NUMBERS;
        }

        static boolean isFieldNumber(int what) {
            return what >= 0 && what < FIELD_NUMBERS;
        }

        void setBodyNumber(int body, int what, long bits) {
            int row = what * BODIES;
            boolean isFloat = row == M || row == R;
            rows[row + body] = isFloat ? Ieee.toFloat(bits) : Ieee.told(bits);
        }

        void setFieldNumber(int what, long bits) {
            boolean isFloat = what == DT || what == BACK;
            field[what] = isFloat ? Ieee.toFloat(bits) : Ieee.told(bits);
        }

        long bodyNumber(int body, int what) {
            return rows[what * BODIES + body];
        }

        long fieldNumber(int what) {
            return field[what];
        }

        void advance() {
            for (int i = 0; i < BODIES; i++) {
                pullByField(i);
            }
            for (int s = 0; s < springs.count; s++) {
                pullBySpring(s);
            }
            for (int i = 0; i < BODIES; i++) {
                move(i);
                keepInside(X + i, U + i);
                keepInside(Y + i, V + i);
            }
            for (int i = 0; i < BODIES; i++) {
                for (int j = i + 1; j < BODIES; j++) {
                    collide(i, j);
                }
            }
        }

        long wholeEnergy() {
            long e = 0;
            for (int i = 0; i < BODIES; i++) {
                e = Ieee.difference(Ieee.sum(e, energyOfMotion(i)), energyOfPlace(i));
            }
            for (int s = 0; s < springs.count; s++) {
                e = Ieee.sum(e, energyOfSpring(s));
            }
            return e;
        }

        long meanOrSquares(int what, boolean isSquares) {
            long t = 0;
            long q = 0;
            for (int n = 0; n < BODIES; n++) {
                long it = bodyNumber(n, what);
                long g = Ieee.difference(it, t);
                t = Ieee.sum(t, Ieee.quotient(g, Ieee.ofWhole(n + 1)));
                q = Ieee.sum(q, Ieee.product(g, Ieee.difference(it, t)));
            }
            return isSquares ? q : t;
        }

        private void pullByField(int i) {
            long m = rows[M + i];
            long drag = field[DRAG];
            rows[FX + i] = Ieee.difference(Ieee.product(m, field[GX]), Ieee.product(drag, rows[U + i]));
            rows[FY + i] = Ieee.difference(Ieee.product(m, field[GY]), Ieee.product(drag, rows[V + i]));
        }

        private void pullBySpring(int s) {
            int i = springs.firstBody(s);
            int j = springs.secondBody(s);
            long dx = Ieee.difference(rows[X + j], rows[X + i]);
            long dy = Ieee.difference(rows[Y + j], rows[Y + i]);
            long d = Ieee.root(Ieee.products(dx, dx, dy, dy));
            if (!Ieee.less(0, d)) {
                return;
            }
            long du = Ieee.difference(rows[U + j], rows[U + i]);
            long dv = Ieee.difference(rows[V + j], rows[V + i]);
            long stretch = Ieee.product(springs.stiffness(s), Ieee.difference(d, springs.length(s)));
            long damping = Ieee.product(springs.damping(s), Ieee.products(du, dx, dv, dy));
            long p = Ieee.sum(Ieee.quotient(stretch, d), Ieee.quotient(damping, Ieee.product(d, d)));
            long px = Ieee.product(p, dx);
            long py = Ieee.product(p, dy);
            rows[FX + i] = Ieee.sum(rows[FX + i], px);
            rows[FY + i] = Ieee.sum(rows[FY + i], py);
            rows[FX + j] = Ieee.difference(rows[FX + j], px);
            rows[FY + j] = Ieee.difference(rows[FY + j], py);
        }

        private void move(int i) {
            rows[U + i] = afterDt(rows[U + i], Ieee.quotient(rows[FX + i], rows[M + i]));
            rows[V + i] = afterDt(rows[V + i], Ieee.quotient(rows[FY + i], rows[M + i]));
            rows[X + i] = afterDt(rows[X + i], rows[U + i]);
            rows[Y + i] = afterDt(rows[Y + i], rows[V + i]);
        }

        private long afterDt(long was, long rate) {
            return Ieee.sum(was, Ieee.product(rate, field[DT]));
        }

        private void keepInside(int place, int speed) {
            long at = rows[place];
            long wall = field[WALL];
            long farWall = Ieee.negated(wall);
            boolean isAbove = Ieee.less(wall, at);
            if (!isAbove && !Ieee.less(at, farWall)) {
                return;
            }
            long passed = isAbove ? wall : farWall;
            long beyond = Ieee.difference(at, passed);
            rows[place] = Ieee.difference(passed, Ieee.product(beyond, field[BACK]));
            rows[speed] = Ieee.negated(Ieee.product(rows[speed], field[BACK]));
        }

        private void collide(int i, int j) {
            long dx = Ieee.difference(rows[X + j], rows[X + i]);
            long dy = Ieee.difference(rows[Y + j], rows[Y + i]);
            long q = Ieee.products(dx, dx, dy, dy);
            long s = Ieee.toFloat(Ieee.sum(rows[R + i], rows[R + j]));
            if (!Ieee.less(q, Ieee.toFloat(Ieee.product(s, s))) || !Ieee.less(0, q)) {
                return;
            }
            long du = Ieee.difference(rows[U + i], rows[U + j]);
            long dv = Ieee.difference(rows[V + i], rows[V + j]);
            long w = Ieee.quotient(Ieee.products(du, dx, dv, dy), q);
            if (!Ieee.less(0, w)) {
                return;
            }
            long masses = Ieee.toFloat(Ieee.sum(rows[M + i], rows[M + j]));
            long t = Ieee.quotient(Ieee.product(Ieee.TWO, w), masses);
            long ti = Ieee.product(t, rows[M + j]);
            long tj = Ieee.product(t, rows[M + i]);
            rows[U + i] = Ieee.difference(rows[U + i], Ieee.product(ti, dx));
            rows[V + i] = Ieee.difference(rows[V + i], Ieee.product(ti, dy));
            rows[U + j] = Ieee.sum(rows[U + j], Ieee.product(tj, dx));
            rows[V + j] = Ieee.sum(rows[V + j], Ieee.product(tj, dy));
        }

        private long energyOfMotion(int i) {
            long u = rows[U + i];
            long v = rows[V + i];
            return Ieee.product(Ieee.product(Ieee.HALF, rows[M + i]), Ieee.products(u, u, v, v));
        }

        private long energyOfPlace(int i) {
            long height = Ieee.products(field[GX], rows[X + i], field[GY], rows[Y + i]);
            return Ieee.product(rows[M + i], height);
        }

        private long energyOfSpring(int s) {
            int i = springs.firstBody(s);
            int j = springs.secondBody(s);
            long dx = Ieee.difference(rows[X + j], rows[X + i]);
            long dy = Ieee.difference(rows[Y + j], rows[Y + i]);
            long d = Ieee.root(Ieee.products(dx, dx, dy, dy));
            long stretch = Ieee.difference(d, springs.length(s));
            long half = Ieee.product(Ieee.HALF, springs.stiffness(s));
            return Ieee.product(Ieee.product(half, stretch), stretch);
        }
    }

    /** At most ten springs, numbered as they came. */
    private static final class Springs {
        static final int MOST = 10;
        static final int BODIES_EACH = 2;
        static final int NUMBERS_EACH = 3;

        private final int[] bodies = new int[MOST * BODIES_EACH];
        private final long[] numbers = new long[MOST * NUMBERS_EACH];
        int count;

        boolean isFull() {
            return count >= MOST;
        }

        int add(int i, int j, long k, long l, long c) {
            bodies[count * BODIES_EACH] = i;
            bodies[count * BODIES_EACH + 1] = j;
            numbers[count * NUMBERS_EACH] = k;
            numbers[count * NUMBERS_EACH + 1] = l;
            numbers[count * NUMBERS_EACH + 2] = c;
            count++;
            return count - 1;
        }

        int removeLatest() {
            count--;
            return count;
        }

        int firstBody(int s) {
            return bodies[s * BODIES_EACH];
        }

        int secondBody(int s) {
            return bodies[s * BODIES_EACH + 1];
        }

        long stiffness(int s) {
            return numbers[s * NUMBERS_EACH];
        }

        long length(int s) {
            return numbers[s * NUMBERS_EACH + 1];
        }

        long damping(int s) {
            return numbers[s * NUMBERS_EACH + 2];
        }
    }

    /**
     * Doubles as their BITS. A finite one is its significand times 2 to its power. One that is no
     * number is always NO_NUMBER here, so that BITS can be told as they are held.
     */
    private static final class Ieee {
        static final long SIGN = 1L << 63;
        static final long MAGNITUDE = ~SIGN;
        static final int FRACTION_BITS = 52;
        static final long HIDDEN = 1L << FRACTION_BITS;
        static final long FRACTION = HIDDEN - 1;
        static final long INFINITE = 0x7ff0000000000000L;
        static final long NO_NUMBER = 0x7ff8000000000000L;
        static final long EIGHTH = 0x3fc0000000000000L;
        static final long HALF = 0x3fe0000000000000L;
        static final long ONE = 0x3ff0000000000000L;
        static final long TWO = 0x4000000000000000L;
        static final long ROOT_START = 2303591209400008704L;
        static final int ROOT_ROUNDS = 5;

        static final int LOWEST_POWER = -1074;
        static final int HIGHEST_PLACE = 2045;
        // How many leading zeros a long has that holds as many bits as a significand.
        static final int SPARE_BITS = 11;
        // How far a significand, or a remainder below one, can go up and stay above 0.
        static final int ROOM_ABOVE = 10;
        static final int QUOTIENT_ROUNDS = 6;
        // Leaves room for the carry of a sum.
        static final int GUARD_BITS = 9;
        static final int LOW_HALF_BITS = 27;
        static final long LOW_HALF = (1L << LOW_HALF_BITS) - 1;
        static final int PRODUCT_DROP = 44;

        static final int FLOAT_SIGN = 1 << 31;
        static final int FLOAT_FRACTION_BITS = 23;
        static final int FLOAT_HIDDEN = 1 << FLOAT_FRACTION_BITS;
        static final int FLOAT_INFINITE = 0x7f800000;
        static final int FLOAT_NO_NUMBER = 0x7fc00000;
        static final int FLOAT_LOWEST_POWER = -149;
        static final int FLOAT_SPARE_BITS = 40;
        static final int FLOAT_LOST_BITS = FRACTION_BITS - FLOAT_FRACTION_BITS;
        static final long FLOAT_END = 0x47f0000000000000L;
        static final long FLOAT_NORMAL = 0x3810000000000000L;

        static final int INT_LEAST = 1 << 31;
        static final int INT_GREATEST = ~INT_LEAST;

        static boolean isNoNumber(long a) {
            return (a & MAGNITUDE) > INFINITE;
        }

        static boolean isInfinite(long a) {
            return (a & MAGNITUDE) == INFINITE;
        }

        static boolean isZero(long a) {
            return (a & MAGNITUDE) == 0;
        }

        static boolean isFinite(long a) {
            return (a & MAGNITUDE) < INFINITE;
        }

        static long told(long bits) {
            return isNoNumber(bits) ? NO_NUMBER : bits;
        }

        static long negated(long a) {
            return told(a ^ SIGN);
        }

        static boolean less(long a, long b) {
            return !isNoNumber(a) && !isNoNumber(b) && order(a) < order(b);
        }

        static long lesser(long a, long b) {
            if (isNoNumber(a) || isNoNumber(b)) {
                return NO_NUMBER;
            }
            // Equal ones differ in the sign of 0 at most.
            if (order(a) == order(b)) {
                return a | b;
            }
            return order(a) < order(b) ? a : b;
        }

        static long greater(long a, long b) {
            return negated(lesser(negated(a), negated(b)));
        }

        private static long order(long a) {
            return a < 0 ? SIGN - a : a;
        }

        static long sum(long a, long b) {
            if (!isFinite(a) || !isFinite(b)) {
                return unendingSum(a, b);
            }
            boolean bIsLarger = (a & MAGNITUDE) < (b & MAGNITUDE);
            long large = bIsLarger ? b : a;
            long small = bIsLarger ? a : b;
            int power = power(large);
            long high = significand(large) << GUARD_BITS;
            long low = lowered(significand(small) << GUARD_BITS, power - power(small));
            long total = (a ^ b) < 0 ? high - low : high + low;
            if (total == 0) {
                return a & b & SIGN;
            }
            return nearest(large & SIGN, power - GUARD_BITS, total);
        }

        private static long unendingSum(long a, long b) {
            if (isNoNumber(a) || isNoNumber(b) || isInfinite(a) && isInfinite(b) && a != b) {
                return NO_NUMBER;
            }
            return isInfinite(a) ? a : b;
        }

        // What is shifted out leaves a last bit of 1, which is enough to round rightly later; what is
        // far below the larger number's last bit can't change it.
        private static long lowered(long s, int by) {
            if (by > 62) {
                return 0;
            }
            long lost = s & ((1L << by) - 1);
            return lost == 0 ? s >>> by : s >>> by | 1;
        }

        static long difference(long a, long b) {
            return sum(a, b ^ SIGN);
        }

        static long product(long a, long b) {
            long sign = (a ^ b) & SIGN;
            if (!isFinite(a) || !isFinite(b)) {
                boolean isNone = isNoNumber(a) || isNoNumber(b) || isZero(a) || isZero(b);
                return isNone ? NO_NUMBER : sign | INFINITE;
            }
            int riseOfA = rise(a);
            int riseOfB = rise(b);
            int power = power(a) - riseOfA + power(b) - riseOfB + PRODUCT_DROP;
            return nearest(sign, power, highProduct(significand(a) << riseOfA, significand(b) << riseOfB));
        }

        // The product of two full significands without its lowest bits, which leave a last bit of 1;
        // by halves, since the whole of it has up to 106 bits.
        private static long highProduct(long s, long t) {
            long sHigh = s >>> LOW_HALF_BITS;
            long sLow = s & LOW_HALF;
            long tHigh = t >>> LOW_HALF_BITS;
            long tLow = t & LOW_HALF;
            long low = sLow * tLow;
            long middle = sHigh * tLow + sLow * tHigh + (low >>> LOW_HALF_BITS);
            long high = sHigh * tHigh << 2 * LOW_HALF_BITS - PRODUCT_DROP;
            long total = high + (middle >>> PRODUCT_DROP - LOW_HALF_BITS);
            long lost = middle & (1L << PRODUCT_DROP - LOW_HALF_BITS) - 1 | low & LOW_HALF;
            return lost == 0 ? total : total | 1;
        }

        static long products(long a, long b, long c, long d) {
            return sum(product(a, b), product(c, d));
        }

        static long quotient(long a, long b) {
            if (!isFinite(a) || !isFinite(b)) {
                return unendingQuotient(a, b);
            }
            long sign = (a ^ b) & SIGN;
            int riseOfA = rise(a);
            int riseOfB = rise(b);
            long divisor = significand(b) << riseOfB;
            if (divisor == 0) {
                return isZero(a) ? NO_NUMBER : sign | INFINITE;
            }
            long dividend = significand(a) << riseOfA;
            long digits = dividend / divisor;
            long rest = dividend - digits * divisor;
            for (int round = 0; round < QUOTIENT_ROUNDS; round++) {
                long raised = rest << ROOM_ABOVE;
                long digit = raised / divisor;
                digits = digits << ROOM_ABOVE | digit;
                rest = raised - digit * divisor;
            }
            int power = power(a) - riseOfA - power(b) + riseOfB - QUOTIENT_ROUNDS * ROOM_ABOVE;
            return nearest(sign, power, rest == 0 ? digits : digits | 1);
        }

        private static long unendingQuotient(long a, long b) {
            if (isNoNumber(a) || isNoNumber(b) || isInfinite(a) && isInfinite(b)) {
                return NO_NUMBER;
            }
            long sign = (a ^ b) & SIGN;
            return isInfinite(a) ? sign | INFINITE : sign;
        }

        static long remainder(long a, long b) {
            long divisor = significand(b);
            if (isNoNumber(b) || !isFinite(a) || divisor == 0) {
                return NO_NUMBER;
            }
            if ((a & MAGNITUDE) < (b & MAGNITUDE)) {
                return a;
            }
            long rest = significand(a) % divisor;
            for (int left = power(a) - power(b); left > 0; left -= ROOM_ABOVE) {
                rest = (rest << Math.min(left, ROOM_ABOVE)) % divisor;
            }
            return nearest(a & SIGN, power(b), rest);
        }

        static long root(long d) {
            if (d <= 0 || d >= INFINITE) {
                return d;
            }
            long s = (d >>> 1) + ROOT_START;
            for (int round = 0; round < ROOT_ROUNDS; round++) {
                // Times a half is the same as by 2.0, and quicker.
                s = product(sum(s, quotient(d, s)), HALF);
            }
            return s;
        }

        static long toFloat(long a) {
            if (!isFinite(a)) {
                return told(a);
            }
            return nearestFloat(a & SIGN, power(a), significand(a));
        }

        static long ofFloatBits(int bits) {
            long sign = (long) (bits & FLOAT_SIGN) << 32;
            int size = bits & ~FLOAT_SIGN;
            if (size >= FLOAT_INFINITE) {
                return size == FLOAT_INFINITE ? sign | INFINITE : NO_NUMBER;
            }
            int exponent = size >>> FLOAT_FRACTION_BITS;
            int fraction = size & (FLOAT_HIDDEN - 1);
            if (exponent == 0) {
                return nearest(sign, FLOAT_LOWEST_POWER, fraction);
            }
            return nearest(sign, FLOAT_LOWEST_POWER + exponent - 1, fraction | FLOAT_HIDDEN);
        }

        /** The BITS, as a float's, of a double that is a float. */
        static int floatBits(long a) {
            if (isNoNumber(a)) {
                return FLOAT_NO_NUMBER;
            }
            int sign = a < 0 ? FLOAT_SIGN : 0;
            long size = a & MAGNITUDE;
            if (size == INFINITE) {
                return sign | FLOAT_INFINITE;
            }
            if (size >= FLOAT_NORMAL) {
                return sign | (int) (size - FLOAT_NORMAL >>> FLOAT_LOST_BITS) + FLOAT_HIDDEN;
            }
            return size == 0 ? sign : sign | (int) (significand(a) >>> FLOAT_LOWEST_POWER - power(a));
        }

        static long ofWhole(long v) {
            return nearest(v & SIGN, 0, Math.abs(v));
        }

        static long floatOfWhole(long v) {
            return nearestFloat(v & SIGN, 0, Math.abs(v));
        }

        static int toInt(long a) {
            return (int) Math.max(INT_LEAST, Math.min(INT_GREATEST, toLong(a)));
        }

        static long toLong(long a) {
            if (isNoNumber(a)) {
                return 0;
            }
            int power = power(a);
            if (power > ROOM_ABOVE) {
                return a < 0 ? SIGN : MAGNITUDE;
            }
            if (power < -FRACTION_BITS) {
                return 0;
            }
            long size = power < 0 ? significand(a) >>> -power : significand(a) << power;
            return a < 0 ? -size : size;
        }

        private static long significand(long a) {
            long fraction = a & FRACTION;
            return (a & INFINITE) == 0 ? fraction : fraction | HIDDEN;
        }

        private static int power(long a) {
            int exponent = (int) ((a & INFINITE) >>> FRACTION_BITS);
            return Math.max(exponent, 1) - 1 + LOWEST_POWER;
        }

        // How far the significand goes up until it has all its bits.
        private static int rise(long a) {
            return Long.numberOfLeadingZeros(significand(a)) - SPARE_BITS;
        }

        // The double nearest to s times 2 to the power. The last bit of s may stand for more below
        // it, if s has at least two bits more than a significand.
        private static long nearest(long sign, int power, long s) {
            if (s == 0) {
                return sign;
            }
            int drop = Math.max(SPARE_BITS - Long.numberOfLeadingZeros(s), LOWEST_POWER - power);
            int place = power + drop - LOWEST_POWER;
            if (place > HIGHEST_PLACE) {
                return sign | INFINITE;
            }
            // The hidden bit, and a carry out of the significand, add to the exponent as they should.
            return sign | ((long) place << FRACTION_BITS) + rounded(s, drop);
        }

        private static long nearestFloat(long sign, int power, long s) {
            int drop = Math.max(FLOAT_SPARE_BITS - Long.numberOfLeadingZeros(s), FLOAT_LOWEST_POWER - power);
            if (drop <= 0) {
                return nearest(sign, power, s);
            }
            long a = nearest(sign, power + drop, rounded(s, drop));
            return (a & MAGNITUDE) >= FLOAT_END ? sign | INFINITE : a;
        }

        private static long rounded(long s, int drop) {
            if (drop <= 0) {
                return s << -drop;
            }
            if (drop > 63) {
                return 0;
            }
            long kept = s >>> drop;
            long rest = s & ((1L << drop) - 1);
            long half = 1L << drop - 1;
            boolean isUp = rest > half || rest == half && (kept & 1) == 1;
            return isUp ? kept + 1 : kept;
        }
    }
}
