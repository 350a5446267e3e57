/** Promises 1, 9 to 13 and 16 to 18: the stores. */
public final class StoresTest {
    private static final int ADD = 0, SUBTRACT = 1, MULTIPLY = 2, DIVIDE = 3, REMAINDER = 4, ROOT = 5, NEGATE = 6;
    private static final int TO_FLOAT = 7, FLOAT_ADD = 8, FLOAT_SUBTRACT = 9, FLOAT_MULTIPLY = 10;
    private static final int FLOAT_DIVIDE = 11, FLOAT_REMAINDER = 12, LESS = 13, GREATER = 14;
    private static final int[] OUTSIDE = {Integer.MIN_VALUE, -1, 8, Integer.MAX_VALUE};
    private static final double INFINITE = Double.POSITIVE_INFINITY;
    private static final double NONE = Double.NaN;
    private static final double LEAST = Double.MIN_VALUE;
    private static final double MOST = Double.MAX_VALUE;

    private static final Check CHECK = new Check();

    public static void main(String[] args) {
        promise1Stores();
        promise9Keep();
        promise10Sums();
        promise10Products();
        promise10Quotients();
        promise10Remainders();
        promise10RootAndSign();
        promise10Floats();
        promise10LessAndGreater();
        promise10Stores();
        promise10WrongNumbers();
        promise11Whole();
        promise12Cast();
        promise13Compare();
        promise16Horner();
        promise17Single();
        promise18FromSingle();
        CHECK.end();
    }

    private static long value(MotionLab lab, int k) {
        return lab.reckon(LESS, k, k, k);
    }

    private static void due(int op, double a, double b, double want) {
        MotionLab lab = new MotionLab();
        lab.keep(0, Check.bits(a));
        lab.keep(1, Check.bits(b));
        String call = "reckon " + op + " of " + a + " and " + b;
        CHECK.due(call, lab.reckon(op, 2, 0, 1), want);
        CHECK.due("store 2 after " + call, value(lab, 2), want);
        CHECK.due("store 0 after " + call, value(lab, 0), a);
        CHECK.due("store 1 after " + call, value(lab, 1), b);
    }

    private static void promise1Stores() {
        MotionLab lab = new MotionLab();
        for (int k = 0; k < 8; k++) {
            CHECK.due("store " + k, value(lab, k), 0.0);
        }
    }

    private static void promise9Keep() {
        MotionLab lab = new MotionLab();
        for (int k = 0; k < 8; k++) {
            CHECK.due("keep " + k, lab.keep(k, Check.bits(k - 0.1)), 0);
        }
        for (int wrong : OUTSIDE) {
            CHECK.due("keep " + wrong, lab.keep(wrong, 0), MotionLab.REFUSED);
        }
        for (int k = 0; k < 8; k++) {
            CHECK.due("store " + k, value(lab, k), k - 0.1);
        }
        lab.keep(0, Long.MIN_VALUE);
        CHECK.due("-0", value(lab, 0), -0.0);
        lab.keep(0, 0xfff0000000000001L);
        CHECK.due("a number that is none", value(lab, 0), NONE);
    }

    private static void promise10Sums() {
        due(ADD, 0.1, 0.2, 0.30000000000000004);
        due(ADD, 1, 0x1p-53, 1);
        due(ADD, Math.nextUp(1.0), 0x1p-53, 1 + 0x1p-51);
        due(ADD, 1, Math.nextUp(0x1p-53), Math.nextUp(1.0));
        due(ADD, 1e300, -1e300, 0.0);
        due(ADD, -0.0, -0.0, -0.0);
        due(ADD, -0.0, 0.0, 0.0);
        due(ADD, MOST, 0x1p970, INFINITE);
        due(ADD, MOST, Math.nextDown(0x1p970), MOST);
        due(ADD, Double.MIN_NORMAL, -LEAST, Double.MIN_NORMAL - LEAST);
        due(ADD, INFINITE, -INFINITE, NONE);
        due(ADD, INFINITE, INFINITE, INFINITE);
        due(ADD, -INFINITE, 1, -INFINITE);
        due(ADD, NONE, 1, NONE);
        due(SUBTRACT, 0.3, 0.1, 0.3 - 0.1);
        due(SUBTRACT, 1, Math.nextUp(1.0), -0x1p-52);
        due(SUBTRACT, 1, 0x1p-54, 1);
        due(SUBTRACT, 1, Math.nextUp(0x1p-54), Math.nextDown(1.0));
        due(SUBTRACT, 0.0, 0.0, 0.0);
        due(SUBTRACT, -0.0, 0.0, -0.0);
        due(SUBTRACT, INFINITE, INFINITE, NONE);
        due(SUBTRACT, 1, NONE, NONE);
    }

    private static void promise10Products() {
        due(MULTIPLY, 0.1, 0.2, 0.020000000000000004);
        due(MULTIPLY, Math.nextUp(1.0), Math.nextUp(1.0), 1 + 0x1p-51);
        due(MULTIPLY, -1, 0.0, -0.0);
        due(MULTIPLY, LEAST, 0.5, 0.0);
        due(MULTIPLY, LEAST, Math.nextUp(0.5), LEAST);
        due(MULTIPLY, 3 * LEAST, 0.5, 2 * LEAST);
        due(MULTIPLY, LEAST, MOST, LEAST * MOST);
        due(MULTIPLY, -LEAST, LEAST, -0.0);
        due(MULTIPLY, MOST, 2, INFINITE);
        due(MULTIPLY, MOST, -MOST, -INFINITE);
        due(MULTIPLY, INFINITE, 0.0, NONE);
        due(MULTIPLY, -INFINITE, -LEAST, INFINITE);
        due(MULTIPLY, NONE, 0.0, NONE);
    }

    private static void promise10Quotients() {
        due(DIVIDE, 1, 3, 0.3333333333333333);
        due(DIVIDE, 2, -3, -0.6666666666666666);
        due(DIVIDE, Math.nextDown(1.0), Math.nextUp(1.0), 1 - 0x1p-52 - 0x1p-53);
        due(DIVIDE, LEAST, 2, 0.0);
        due(DIVIDE, 3 * LEAST, 2, 2 * LEAST);
        due(DIVIDE, LEAST, LEAST, 1);
        due(DIVIDE, MOST, LEAST, INFINITE);
        due(DIVIDE, LEAST, -MOST, -0.0);
        due(DIVIDE, 1, MOST, 1 / MOST);
        due(DIVIDE, 1, 0.0, INFINITE);
        due(DIVIDE, 1, -0.0, -INFINITE);
        due(DIVIDE, 0.0, -0.0, NONE);
        due(DIVIDE, -0.0, 5, -0.0);
        due(DIVIDE, INFINITE, INFINITE, NONE);
        due(DIVIDE, INFINITE, 0.0, INFINITE);
        due(DIVIDE, 0.0, INFINITE, 0.0);
        due(DIVIDE, -5, INFINITE, -0.0);
        due(DIVIDE, 1, NONE, NONE);
    }

    private static void promise10Remainders() {
        due(REMAINDER, 5.5, 2, 1.5);
        due(REMAINDER, -5.5, 2, -1.5);
        due(REMAINDER, 5.5, -2, 1.5);
        due(REMAINDER, 1, 0.1, 1 % 0.1);
        due(REMAINDER, MOST, 3, MOST % 3);
        due(REMAINDER, MOST, 3 * LEAST, MOST % (3 * LEAST));
        due(REMAINDER, MOST, LEAST, 0.0);
        due(REMAINDER, -4, 2, -0.0);
        due(REMAINDER, -0.0, 2, -0.0);
        due(REMAINDER, 0.1, 0.2, 0.1);
        due(REMAINDER, INFINITE, 2, NONE);
        due(REMAINDER, INFINITE, INFINITE, NONE);
        due(REMAINDER, 1, 0.0, NONE);
        due(REMAINDER, 0.0, -0.0, NONE);
        due(REMAINDER, -3, INFINITE, -3);
        due(REMAINDER, NONE, INFINITE, NONE);
        due(REMAINDER, 3, NONE, NONE);
    }

    private static void promise10RootAndSign() {
        due(ROOT, 4, 0, 2);
        due(ROOT, 2, 0, Reference.root(2));
        due(ROOT, MOST, 0, Reference.root(MOST));
        due(ROOT, LEAST, 0, Double.longBitsToDouble(2281073211263157135L));
        due(ROOT, -4, 0, -4);
        due(ROOT, -0.0, 0, -0.0);
        due(ROOT, 0, 0, 0);
        due(ROOT, INFINITE, 0, INFINITE);
        due(ROOT, -INFINITE, 0, -INFINITE);
        due(ROOT, NONE, 0, NONE);
        due(NEGATE, 1.5, 0, -1.5);
        due(NEGATE, 0.0, 0, -0.0);
        due(NEGATE, -0.0, 0, 0.0);
        due(NEGATE, -INFINITE, 0, INFINITE);
        due(NEGATE, NONE, 0, NONE);
    }

    private static void promise10Floats() {
        due(TO_FLOAT, 0.1, 0, 0.1f);
        due(TO_FLOAT, 1 + 0x1p-24, 0, 1);
        due(TO_FLOAT, 1 + 0x1p-23 + 0x1p-24, 0, 1 + 0x1p-22);
        due(TO_FLOAT, 1 + 0x1p-24 + 0x1p-52, 0, 1 + 0x1p-23);
        due(TO_FLOAT, -0x1.fffffefffffffp127, 0, -Float.MAX_VALUE);
        due(TO_FLOAT, 0x1.ffffffp127, 0, INFINITE);
        due(TO_FLOAT, -1e300, 0, -INFINITE);
        due(TO_FLOAT, 0x1p-150, 0, 0.0);
        due(TO_FLOAT, -0x1p-150, 0, -0.0);
        due(TO_FLOAT, Math.nextUp(0x1p-150), 0, 0x1p-149);
        due(TO_FLOAT, 0x1.8p-149, 0, 0x1p-148);
        due(TO_FLOAT, 0x1.fffffffp-127, 0, 0x1p-126);
        due(TO_FLOAT, LEAST, 0, 0.0);
        due(TO_FLOAT, -0.0, 0, -0.0);
        due(TO_FLOAT, NONE, 0, NONE);
        due(FLOAT_ADD, 0.1, 0.2, 0.1f + 0.2f);
        due(FLOAT_ADD, 0x1p24, 1, 0x1p24);
        due(FLOAT_ADD, 1 + 0x1p-24, 1 + 0x1p-24, 2);
        due(FLOAT_ADD, Float.MAX_VALUE, Float.MAX_VALUE, INFINITE);
        due(FLOAT_SUBTRACT, 0.1, 0.3, 0.1f - 0.3f);
        due(FLOAT_SUBTRACT, 1e300, 1e300, NONE);
        due(FLOAT_MULTIPLY, 0.1, 0.3, 0.1f * 0.3f);
        due(FLOAT_MULTIPLY, Float.MIN_VALUE, 0.5, 0.0);
        due(FLOAT_MULTIPLY, 3 * Float.MIN_VALUE, 0.5, 2 * Float.MIN_VALUE);
        due(FLOAT_MULTIPLY, 1e30, -1e30, -INFINITE);
        due(FLOAT_DIVIDE, 1, 3, 1f / 3f);
        due(FLOAT_DIVIDE, Float.MIN_VALUE, 3, 0.0);
        due(FLOAT_DIVIDE, -1, 1e-300, -INFINITE);
        due(FLOAT_DIVIDE, 1e-300, 1e-300, NONE);
        due(FLOAT_REMAINDER, 1, 0.1, 1f % 0.1f);
        due(FLOAT_REMAINDER, -Float.MAX_VALUE, 0.3, -Float.MAX_VALUE % 0.3f);
        due(FLOAT_REMAINDER, 2, 1e300, 2);
        due(FLOAT_REMAINDER, 2, 1e-300, NONE);
    }

    private static void promise10LessAndGreater() {
        double[] rising = {-INFINITE, -2, -1, -LEAST, -0.0, 0.0, LEAST, 1, 2, INFINITE};
        for (int i = 0; i < rising.length; i++) {
            for (int j = 0; j < rising.length; j++) {
                due(LESS, rising[i], rising[j], rising[Math.min(i, j)]);
                due(GREATER, rising[i], rising[j], rising[Math.max(i, j)]);
            }
            due(LESS, NONE, rising[i], NONE);
            due(LESS, rising[i], NONE, NONE);
            due(GREATER, NONE, rising[i], NONE);
            due(GREATER, rising[i], NONE, NONE);
        }
    }

    private static void promise10Stores() {
        MotionLab lab = new MotionLab();
        for (int k = 0; k < 8; k++) {
            lab.keep(k, Check.bits(k + 1.0));
        }
        CHECK.due("6 less 3", lab.reckon(SUBTRACT, 7, 5, 2), 3.0);
        CHECK.due("doubled in place", lab.reckon(ADD, 7, 7, 7), 6.0);
        for (int k = 0; k < 7; k++) {
            CHECK.due("store " + k, value(lab, k), k + 1.0);
        }
    }

    private static void promise10WrongNumbers() {
        MotionLab lab = new MotionLab();
        lab.keep(0, Check.bits(4.0));
        for (int op = 0; op < 15; op++) {
            for (int wrong : OUTSIDE) {
                CHECK.due("reckon into " + wrong, lab.reckon(op, wrong, 0, 0), 1);
                CHECK.due("reckon of a " + wrong, lab.reckon(op, 1, wrong, 0), 1);
                CHECK.due("reckon of b " + wrong, lab.reckon(op, 1, 0, wrong), 1);
            }
        }
        for (int wrong : new int[] {Integer.MIN_VALUE, -1, 15, Integer.MAX_VALUE}) {
            CHECK.due("reckon " + wrong, lab.reckon(wrong, 1, 0, 0), 1);
        }
        CHECK.due("store 1 is as it was", value(lab, 1), 0.0);
    }

    private static void promise11Whole() {
        MotionLab lab = new MotionLab();
        long[] numbers = {0, 1, -1, 16777217, -16777219, 9007199254740993L, 9007199254740995L, 9007199791611905L,
            Long.MAX_VALUE, Long.MIN_VALUE, Long.MIN_VALUE + 1, 0x7ffffffffffffdffL, 0x7ffffffffffffe00L};
        for (long number : numbers) {
            CHECK.due("whole as double " + number, lab.whole(3, 0, number), (double) number);
            CHECK.due("its store", value(lab, 3), (double) number);
            CHECK.due("whole as float " + number, lab.whole(3, 1, number), (double) (float) number);
            CHECK.due("its store", value(lab, 3), (double) (float) number);
        }
        lab.whole(3, 0, 77);
        for (int wrong : OUTSIDE) {
            CHECK.due("whole into " + wrong, lab.whole(wrong, 0, 5), 1);
            CHECK.due("whole as " + wrong, lab.whole(3, wrong, 5), 1);
        }
        CHECK.due("whole as 2", lab.whole(3, 2, 5), 1);
        CHECK.due("store 3 is as it was", value(lab, 3), 77.0);
    }

    private static void promise12Cast() {
        MotionLab lab = new MotionLab();
        double[] numbers = {0, -0.0, 0.99, -0.99, 1.5, -1.5, LEAST, 127.9, 128, -129, 255.5, 32768, -32769, 65535.5, 65536,
            -65537.9, 2147483647.9, 2147483648.0, -2147483648.9, -2147483649.0, 4294967297.0, 0x1p52 + 0.5, 0x1p53 + 2,
            Math.nextDown(0x1p63), 0x1p63, -0x1p63, -0x1.0000000000001p63, MOST, -MOST, INFINITE, -INFINITE, NONE};
        for (double d : numbers) {
            lab.keep(6, Check.bits(d));
            CHECK.due("int of " + d, lab.cast(6, 0), (long) (int) d);
            CHECK.due("long of " + d, lab.cast(6, 1), (long) d);
            CHECK.due("short of " + d, lab.cast(6, 2), (long) (short) (int) d);
            CHECK.due("char of " + d, lab.cast(6, 3), (long) (char) (int) d);
            CHECK.due("byte of " + d, lab.cast(6, 4), (long) (byte) (int) d);
            CHECK.due("store 6", value(lab, 6), d);
        }
        for (int wrong : OUTSIDE) {
            CHECK.due("cast of store " + wrong, lab.cast(wrong, 0), 1L << 62);
            CHECK.due("cast as " + wrong, lab.cast(6, wrong), 1L << 62);
        }
        CHECK.due("cast as 5", lab.cast(6, 5), 1L << 62);
    }

    private static void promise13Compare() {
        MotionLab lab = new MotionLab();
        double[] numbers = {-INFINITE, -MOST, -1, -LEAST, -0.0, 0.0, LEAST, 1, Math.nextUp(1.0), MOST, INFINITE, NONE};
        for (double a : numbers) {
            for (double b : numbers) {
                lab.keep(6, Check.bits(a));
                lab.keep(7, Check.bits(b));
                int want = a < b ? 1 + 2 + 8 : a > b ? 8 + 16 + 32 : a == b ? 2 + 4 + 16 : 8;
                CHECK.due("compare " + a + " and " + b, lab.compare(6, 7), want);
            }
        }
        for (int wrong : OUTSIDE) {
            CHECK.due("compare " + wrong + " with 0", lab.compare(wrong, 0), MotionLab.REFUSED);
            CHECK.due("compare 0 with " + wrong, lab.compare(0, wrong), MotionLab.REFUSED);
        }
    }

    private static void promise16Horner() {
        MotionLab lab = new MotionLab();
        double[] c = {0.1, -0.2, 0.3, 1.7, 0.5, -0.6, 0.7, 0.8};
        for (int k = 0; k < 8; k++) {
            lab.keep(k, Check.bits(c[k]));
        }
        for (int x = 0; x < 8; x++) {
            double e = c[7];
            for (int k = 6; k >= 0; k--) {
                e = e * c[x] + c[k];
            }
            CHECK.due("horner(" + x + ")", lab.horner(x), e);
        }
        for (int k = 0; k < 8; k++) {
            CHECK.due("store " + k, value(lab, k), c[k]);
        }
        for (int wrong : OUTSIDE) {
            CHECK.due("horner(" + wrong + ")", lab.horner(wrong), 1);
        }
        lab.keep(4, Check.bits(INFINITE));
        CHECK.due("horner of an infinite store", lab.horner(4), INFINITE);
        lab.keep(4, Check.bits(NONE));
        CHECK.due("horner of no number", lab.horner(0), NONE);
    }

    private static void promise17Single() {
        MotionLab lab = new MotionLab();
        double[] numbers = {0, -0.0, 1, -1, 0.1, 1 + 0x1p-24, 0x1p-126, 0x1p-127, 0x1p-149, 0x1p-150, -0x1.8p-149,
            0x1.fffffffp-127, Float.MAX_VALUE, 0x1.ffffffp127, -MOST, LEAST, INFINITE, -INFINITE};
        for (double d : numbers) {
            lab.keep(5, Check.bits(d));
            CHECK.due("single of " + d, lab.single(5), Float.floatToRawIntBits((float) d));
            CHECK.due("store 5", value(lab, 5), d);
        }
        lab.keep(5, -1);
        CHECK.due("single of no number", lab.single(5), 0x7fc00000);
        for (int wrong : OUTSIDE) {
            CHECK.due("single(" + wrong + ")", lab.single(wrong), 1);
        }
    }

    private static void promise18FromSingle() {
        MotionLab lab = new MotionLab();
        int[] all = {0, 1 << 31, 1, 0x80000001, 0x007fffff, 0x00800000, 0x3f800000, 0xbdcccccd, 0x7f7fffff, 0x7f800000,
            0xff800000, 0x7f800001, 0xffffffff};
        for (int bits : all) {
            double want = Float.intBitsToFloat(bits);
            CHECK.due("fromSingle of " + bits, lab.fromSingle(7, bits), want);
            CHECK.due("its store", value(lab, 7), want);
        }
        for (int wrong : OUTSIDE) {
            CHECK.due("fromSingle into " + wrong, lab.fromSingle(wrong, 0), 1);
        }
    }
}
