/** The section "Terms", sentence by sentence: each edge of its arithmetic from the inside and from the outside. */
public final class TermsEdgesTest {
    private static final double INFINITE = Bench.INFINITE, NONE = Bench.NONE;
    private static final double LEAST = Bench.LEAST, NORMAL = Bench.NORMAL, MOST = Bench.MOST;
    private static final float LEAST_FLOAT = Float.MIN_VALUE, NORMAL_FLOAT = Float.MIN_NORMAL, MOST_FLOAT = Float.MAX_VALUE;
    // The distance from 1 to the next double, and to the next float.
    private static final double U = 0x1p-52, FU = 0x1p-23;

    private static final Check CHECK = new Check();

    public static void main(String[] args) {
        nearestSum();
        nearestProduct();
        nearestQuotient();
        nearestFloats();
        tooLarge();
        tooLargeFloats();
        belowNormal();
        belowNormalFloats();
        tooSmall();
        noNumber();
        zeroWithASign();
        remainderIsExact();
        remainderHasTheSignOfTheFirst();
        remainderOfTheInfinite();
        remainderByZero();
        remainderByTheInfinite();
        remainderOfFloats();
        floatsOnlyIfBothAre();
        makesTheNearestFloat();
        comparesAsNumbers();
        comparesFalseWithNone();
        bitsOfNoNumber();
        rootIsItself();
        rootOfTheSmallestAndGreatest();
        rootStartAndRounds();
        storesAreZeroAtFirst();
        usedFor512Calls();
        CHECK.end();
    }

    private static void due(int op, double a, double b, double want) {
        Bench bench = new Bench(CHECK);
        bench.keep(3, a);
        bench.keep(5, b);
        CHECK.due("reckon " + op + " of " + a + " and " + b, bench.lab.reckon(op, 6, 3, 5), want);
    }

    // The same with both signs turned, which must turn the sign of the result.
    private static void sumDue(double a, double b, double want) {
        due(Bench.ADD, a, b, want);
        due(Bench.ADD, b, a, want);
        due(Bench.ADD, -a, -b, -want);
        due(Bench.SUBTRACT, a, -b, want);
        due(Bench.SUBTRACT, -b, a, -want);
    }

    private static void productDue(double a, double b, double want) {
        due(Bench.MULTIPLY, a, b, want);
        due(Bench.MULTIPLY, -b, a, -want);
        due(Bench.MULTIPLY, -a, -b, want);
    }

    private static void quotientDue(double a, double b, double want) {
        due(Bench.DIVIDE, a, b, want);
        due(Bench.DIVIDE, -a, b, -want);
        due(Bench.DIVIDE, -a, -b, want);
    }

    private static void nearestSum() {
        CHECK.sentence("the number nearest to what it means exactly (of two the one whose last bit is 0): + and -");
        sumDue(1, Math.nextDown(U / 2), 1);
        sumDue(1, U / 2, 1);
        sumDue(1, Math.nextUp(U / 2), 1 + U);
        sumDue(1 + U, Math.nextDown(U / 2), 1 + U);
        sumDue(1 + U, U / 2, 1 + 2 * U);
        sumDue(1, -Math.nextDown(U / 4), 1);
        sumDue(1, -U / 4, 1);
        sumDue(1, -Math.nextUp(U / 4), 1 - U / 2);
        sumDue(1, LEAST, 1);
        sumDue(1, -LEAST, 1);
        sumDue(MOST, LEAST, MOST);
        sumDue(2 - U, U / 2, 2);
        sumDue(0x1p53, 1, 0x1p53);
        sumDue(0x1p53 + 2, 1, 0x1p53 + 4);
        sumDue(1, -Math.nextDown(1.0), U / 2);
    }

    private static void nearestProduct() {
        CHECK.sentence("the number nearest to what it means exactly (of two the one whose last bit is 0): *");
        productDue(1 + U, 1 + U, 1 + 2 * U);
        productDue(1 + U, 1.5, 1.5 + 2 * U);
        productDue(1 + 3 * U, 1.5, 1.5 + 4 * U);
        // Just above a half over an even last bit; just below a half over an odd one.
        double base = 1 + 0x1p-26 + 0x1p-27;
        productDue(1 + 0x1p-26, 1 + 0x1p-27, base);
        productDue(1 + 0x1p-26 + 2 * U, 1 + 0x1p-27, base + 3 * U);
        productDue(1 + 0x1p-26 - U, 1 + 0x1p-27, base - U);
        productDue(Math.nextDown(2.0), Math.nextDown(2.0), 4 - 4 * U);
        // (1.5 + nu)^2 is a half over an even last bit, and n^2 * u^2 above it, far down or less far.
        for (long n : new long[] {3, (1 << 12) + 3, (1 << 20) + 3}) {
            productDue(1.5 + n * U, 1.5 + n * U, 2.25 + (3 * n + 1) * U);
        }
        for (int far = 8; far <= 40; far++) {
            long n = 1L << far;
            productDue(1.5 + n * U, 1.5 + 6 * U, 2.25 + (n / 2 * 3 + 10) * U);
        }
        productDue(1.5 + 7 * U, 1.5 - U, 2.25 + 8 * U);
    }

    private static void nearestQuotient() {
        CHECK.sentence("the number nearest to what it means exactly (of two the one whose last bit is 0): /");
        quotientDue(1, 3, 0x1.5555555555555p-2);
        quotientDue(2, 3, 0x1.5555555555555p-1);
        quotientDue(1, 10, 0x1.999999999999ap-4);
        quotientDue(1, 1 - U / 2, 1 + U);
        quotientDue(1, 1 + U, 1 - U);
        // 1 + 2u/b, and b next to 4/3: just below and just above the half of 1 + u and 1 + 2u.
        quotientDue(0x1.5555555555558p0, 0x1.5555555555556p0, 1 + U);
        quotientDue(0x1.5555555555557p0, 0x1.5555555555555p0, 1 + 2 * U);
    }

    private static void nearestFloats() {
        CHECK.sentence("as a FLOAT if both are: + - * / of floats, to the nearest float");
        due(Bench.FLOAT_ADD, 1, Math.nextDown(0x1p-24f), 1);
        due(Bench.FLOAT_ADD, 1, 0x1p-24, 1);
        due(Bench.FLOAT_ADD, 1, Math.nextUp(0x1p-24f), 1 + FU);
        due(Bench.FLOAT_ADD, 1 + FU, 0x1p-24, 1 + 2 * FU);
        due(Bench.FLOAT_ADD, 1, LEAST_FLOAT, 1);
        due(Bench.FLOAT_SUBTRACT, 1, 0x1p-25, 1);
        due(Bench.FLOAT_SUBTRACT, 1, Math.nextUp(0x1p-25f), 1 - FU / 2);
        due(Bench.FLOAT_SUBTRACT, 1, Math.nextDown(0x1p-25f), 1);
        due(Bench.FLOAT_MULTIPLY, 1 + FU, 1.5, 1.5 + 2 * FU);
        due(Bench.FLOAT_MULTIPLY, 1 + 3 * FU, 1.5, 1.5 + 4 * FU);
        due(Bench.FLOAT_MULTIPLY, 1 + FU, 1 + FU, 1 + 2 * FU);
        due(Bench.FLOAT_DIVIDE, 1, 3, 0x1.555556p-2);
        due(Bench.FLOAT_DIVIDE, 1, 1 - FU / 2, 1 + FU);
        due(Bench.FLOAT_DIVIDE, 0x1.55555ap0, 0x1.555556p0, 1 + FU);
        due(Bench.FLOAT_DIVIDE, 0x1.555558p0, 0x1.555554p0, 1 + 2 * FU);
        CHECK.sentence("(f) of a and (f) of b, + of floats: both are made floats first");
        due(Bench.FLOAT_ADD, 1 + 0x1p-24, 0x1p-24, 1);
        due(Bench.FLOAT_SUBTRACT, 1 + 0x1p-24, 1, 0.0);
        due(Bench.FLOAT_MULTIPLY, 1 + 0x1p-24, 0x1p24, 0x1p24);
        due(Bench.FLOAT_DIVIDE, 1 + 0x1p-24, 0x1p-24, 0x1p24);
    }

    private static void tooLarge() {
        CHECK.sentence("infinite: what is too large for a double");
        sumDue(MOST, Math.nextDown(0x1p970), MOST);
        sumDue(MOST, 0x1p970, INFINITE);
        sumDue(0x1p1023, 0x1p1023, INFINITE);
        sumDue(0x1p1023, Math.nextDown(0x1p1023) - 0x1p970, MOST);
        productDue(MOST, 1, MOST);
        productDue(MOST, 1 + U, INFINITE);
        productDue(Math.nextDown(0x1p1023), 2, MOST);
        productDue(0x1p1023, 2, INFINITE);
        // 2^970 * (2^54 - 1) is half way from the greatest double to 2^1024.
        productDue(0x1.ffffffcp526, 0x1.0000002p497, INFINITE);
        quotientDue(MOST, 1, MOST);
        quotientDue(MOST, 1 - U / 2, INFINITE);
        quotientDue(MOST / 2, 0.5, MOST);
        quotientDue(0x1p1023, 0.5, INFINITE);
        quotientDue(MOST, LEAST, INFINITE);
    }

    private static void tooLargeFloats() {
        CHECK.sentence("infinite: what is too large for a float");
        due(Bench.FLOAT_ADD, MOST_FLOAT, Math.nextDown(0x1p103f), MOST_FLOAT);
        due(Bench.FLOAT_ADD, MOST_FLOAT, 0x1p103, INFINITE);
        due(Bench.FLOAT_SUBTRACT, -MOST_FLOAT, Math.nextDown(0x1p103f), -MOST_FLOAT);
        due(Bench.FLOAT_SUBTRACT, -MOST_FLOAT, 0x1p103, -INFINITE);
        due(Bench.FLOAT_MULTIPLY, Math.nextDown(0x1p127f), 2, MOST_FLOAT);
        due(Bench.FLOAT_MULTIPLY, 0x1p127, 2, INFINITE);
        due(Bench.FLOAT_MULTIPLY, -MOST_FLOAT, 1 + FU, -INFINITE);
        due(Bench.FLOAT_DIVIDE, MOST_FLOAT / 2, 0.5, MOST_FLOAT);
        due(Bench.FLOAT_DIVIDE, 0x1p127, 0.5, INFINITE);
        due(Bench.FLOAT_DIVIDE, MOST_FLOAT, 1 - FU / 2, INFINITE);
    }

    private static void belowNormal() {
        CHECK.sentence("below all that is normal");
        sumDue(NORMAL, -LEAST, 0x0.fffffffffffffp-1022);
        sumDue(0x0.fffffffffffffp-1022, LEAST, NORMAL);
        sumDue(LEAST, LEAST, 2 * LEAST);
        sumDue(2 * LEAST, -LEAST, LEAST);
        sumDue(NORMAL + LEAST, -NORMAL, LEAST);
        productDue(NORMAL, 1 - U / 2, NORMAL);
        productDue(NORMAL, 1 - U, 0x0.fffffffffffffp-1022);
        productDue(0x0.fffffffffffffp-1022, 1 + U, NORMAL);
        productDue(LEAST, Math.nextUp(0.5), LEAST);
        productDue(LEAST, 0.5, 0.0);
        productDue(LEAST, 1.5, 2 * LEAST);
        productDue(LEAST, Math.nextDown(1.5), LEAST);
        productDue(LEAST, 2.5, 2 * LEAST);
        productDue(LEAST, Math.nextUp(2.5), 3 * LEAST);
        productDue(0x1p-537, 0x1p-537, LEAST);
        productDue(0x1p-537, 0x1p-538, 0.0);
        productDue(LEAST, LEAST, 0.0);
        productDue(LEAST, 0x1p52, NORMAL);
        quotientDue(NORMAL, 0x1p52, LEAST);
        quotientDue(NORMAL, Math.nextDown(0x1p53), LEAST);
        quotientDue(NORMAL, 0x1p53, 0.0);
        quotientDue(3 * LEAST, 2, 2 * LEAST);
        quotientDue(5 * LEAST, 2, 2 * LEAST);
        quotientDue(5 * LEAST, Math.nextDown(2.0), 3 * LEAST);
        quotientDue(LEAST, MOST, 0.0);
        quotientDue(LEAST, LEAST, 1);
        quotientDue(1, MOST, 0x0.4000000000000p-1022);
    }

    private static void tooSmall() {
        CHECK.sentence("0 with a sign: what is too small for a double or a float, however far");
        for (int power = 1075; power <= 1300; power++) {
            productDue(0x1p-600, Math.scalb(1.0, 600 - power), 0.0);
            productDue(Math.nextUp(0x1p-600), Math.scalb(1.0, 600 - power), power == 1075 ? LEAST : 0.0);
            quotientDue(0x1p-600, Math.scalb(1.0, power - 600), 0.0);
            quotientDue(Math.nextUp(0x1p-600), Math.scalb(1.0, power - 600), power == 1075 ? LEAST : 0.0);
        }
        for (int power = 150; power <= 1074; power++) {
            double d = Math.scalb(1.0, -power);
            due(Bench.TO_FLOAT, d, 0, 0.0);
            due(Bench.TO_FLOAT, -d, 0, -0.0);
            due(Bench.TO_FLOAT, Math.nextUp(d), 0, power == 150 ? LEAST_FLOAT : 0.0);
        }
        for (int power = 54; power <= 1074; power++) {
            double d = Math.scalb(1.0, -power);
            due(Bench.ADD, 1, d, 1);
            due(Bench.SUBTRACT, 1, d, 1);
            due(Bench.ADD, 1 + U, -Math.nextUp(d), 1 + U);
        }
    }

    private static void belowNormalFloats() {
        CHECK.sentence("below all that is normal, of floats");
        due(Bench.FLOAT_SUBTRACT, NORMAL_FLOAT, LEAST_FLOAT, 0x0.fffffep-126);
        due(Bench.FLOAT_ADD, 0x0.fffffep-126, LEAST_FLOAT, NORMAL_FLOAT);
        due(Bench.FLOAT_MULTIPLY, NORMAL_FLOAT, 1 - FU / 2, NORMAL_FLOAT);
        due(Bench.FLOAT_MULTIPLY, NORMAL_FLOAT, 1 - FU, 0x0.fffffep-126);
        due(Bench.FLOAT_MULTIPLY, LEAST_FLOAT, Math.nextUp(0.5f), LEAST_FLOAT);
        due(Bench.FLOAT_MULTIPLY, LEAST_FLOAT, 0.5, 0.0);
        due(Bench.FLOAT_MULTIPLY, LEAST_FLOAT, -0.5, -0.0);
        due(Bench.FLOAT_MULTIPLY, LEAST_FLOAT, 1.5, 0x1p-148);
        due(Bench.FLOAT_MULTIPLY, LEAST_FLOAT, 2.5, 0x1p-148);
        due(Bench.FLOAT_MULTIPLY, 0x1p-75, 0x1p-75, 0.0);
        due(Bench.FLOAT_MULTIPLY, 0x1p-75, 0x1p-74, LEAST_FLOAT);
        due(Bench.FLOAT_DIVIDE, NORMAL_FLOAT, 0x1p23, LEAST_FLOAT);
        due(Bench.FLOAT_DIVIDE, NORMAL_FLOAT, 0x1p24, 0.0);
        due(Bench.FLOAT_DIVIDE, NORMAL_FLOAT, Math.nextDown(0x1p24f), LEAST_FLOAT);
        due(Bench.FLOAT_DIVIDE, -LEAST_FLOAT, MOST_FLOAT, -0.0);
    }

    private static void noNumber() {
        CHECK.sentence("all that is not a number");
        double[] any = {0.0, -0.0, LEAST, -1, MOST, INFINITE, -INFINITE, NONE};
        int[] ofTwo = {Bench.ADD, Bench.SUBTRACT, Bench.MULTIPLY, Bench.DIVIDE, Bench.REMAINDER, Bench.FLOAT_ADD,
            Bench.FLOAT_SUBTRACT, Bench.FLOAT_MULTIPLY, Bench.FLOAT_DIVIDE, Bench.FLOAT_REMAINDER};
        for (int op : ofTwo) {
            for (double a : any) {
                due(op, a, NONE, NONE);
                due(op, NONE, a, NONE);
            }
        }
        for (int floats = 0; floats <= Bench.FLOAT_ADD; floats += Bench.FLOAT_ADD) {
            due(floats + Bench.ADD, INFINITE, -INFINITE, NONE);
            due(floats + Bench.ADD, INFINITE, -MOST_FLOAT, INFINITE);
            due(floats + Bench.ADD, -INFINITE, -INFINITE, -INFINITE);
            due(floats + Bench.SUBTRACT, INFINITE, INFINITE, NONE);
            due(floats + Bench.SUBTRACT, INFINITE, -INFINITE, INFINITE);
            due(floats + Bench.SUBTRACT, MOST_FLOAT, INFINITE, -INFINITE);
            due(floats + Bench.MULTIPLY, INFINITE, -0.0, NONE);
            due(floats + Bench.MULTIPLY, 0.0, -INFINITE, NONE);
            due(floats + Bench.MULTIPLY, INFINITE, -LEAST_FLOAT, -INFINITE);
            due(floats + Bench.MULTIPLY, -INFINITE, -INFINITE, INFINITE);
            due(floats + Bench.DIVIDE, INFINITE, -INFINITE, NONE);
            due(floats + Bench.DIVIDE, -INFINITE, MOST_FLOAT, -INFINITE);
            due(floats + Bench.DIVIDE, 0.0, 0.0, NONE);
            due(floats + Bench.DIVIDE, -0.0, 0.0, NONE);
            due(floats + Bench.DIVIDE, LEAST_FLOAT, 0.0, INFINITE);
            due(floats + Bench.DIVIDE, LEAST_FLOAT, -0.0, -INFINITE);
        }
    }

    private static void zeroWithASign() {
        CHECK.sentence("0 with a sign");
        for (int floats = 0; floats <= Bench.FLOAT_ADD; floats += Bench.FLOAT_ADD) {
            due(floats + Bench.ADD, 0.0, 0.0, 0.0);
            due(floats + Bench.ADD, 0.0, -0.0, 0.0);
            due(floats + Bench.ADD, -0.0, 0.0, 0.0);
            due(floats + Bench.ADD, -0.0, -0.0, -0.0);
            due(floats + Bench.ADD, 1.5, -1.5, 0.0);
            due(floats + Bench.ADD, -1.5, 1.5, 0.0);
            due(floats + Bench.SUBTRACT, 0.0, 0.0, 0.0);
            due(floats + Bench.SUBTRACT, -0.0, 0.0, -0.0);
            due(floats + Bench.SUBTRACT, 0.0, -0.0, 0.0);
            due(floats + Bench.SUBTRACT, -0.0, -0.0, 0.0);
            due(floats + Bench.SUBTRACT, -1.5, -1.5, 0.0);
            due(floats + Bench.MULTIPLY, 0.0, -0.0, -0.0);
            due(floats + Bench.MULTIPLY, -0.0, -3, 0.0);
            due(floats + Bench.MULTIPLY, -3, 0.0, -0.0);
            due(floats + Bench.DIVIDE, -0.0, 3, -0.0);
            due(floats + Bench.DIVIDE, 0.0, -INFINITE, -0.0);
            due(floats + Bench.DIVIDE, -3, -INFINITE, 0.0);
        }
        due(Bench.ADD, -0.0, LEAST, LEAST);
        due(Bench.ADD, 0.0, -LEAST, -LEAST);
    }

    private static void remainderIsExact() {
        CHECK.sentence("% is exact");
        due(Bench.REMAINDER, Math.nextDown(3.0), 3, Math.nextDown(3.0));
        due(Bench.REMAINDER, 3, 3, 0.0);
        due(Bench.REMAINDER, Math.nextUp(3.0), 3, 0x1p-51);
        due(Bench.REMAINDER, 6, 3, 0.0);
        due(Bench.REMAINDER, Math.nextDown(6.0), 3, 3 - 4 * U);
        due(Bench.REMAINDER, 0x1p60 + 0x1p8, 10, 2);
        // As LEASTs these are 2^2074 and 2^2073; even powers of 2 leave 1 by 3, odd ones 2.
        due(Bench.REMAINDER, 0x1p1000, 3 * LEAST, LEAST);
        due(Bench.REMAINDER, 0x1p999, 3 * LEAST, 2 * LEAST);
        due(Bench.REMAINDER, MOST, LEAST, 0.0);
        due(Bench.REMAINDER, NORMAL, 0x0.fffffffffffffp-1022, LEAST);
        due(Bench.REMAINDER, 0x0.fffffffffffffp-1022, NORMAL, 0x0.fffffffffffffp-1022);
        due(Bench.REMAINDER, MOST, Math.nextDown(MOST), 0x1p971);
        due(Bench.REMAINDER, Math.nextDown(MOST), MOST, Math.nextDown(MOST));
    }

    private static void remainderHasTheSignOfTheFirst() {
        CHECK.sentence("%, with the sign of the first");
        due(Bench.REMAINDER, 7, 4, 3);
        due(Bench.REMAINDER, 7, -4, 3);
        due(Bench.REMAINDER, -7, 4, -3);
        due(Bench.REMAINDER, -7, -4, -3);
        due(Bench.REMAINDER, 8, -4, 0.0);
        due(Bench.REMAINDER, -8, 4, -0.0);
        due(Bench.REMAINDER, -8, -4, -0.0);
        due(Bench.REMAINDER, 0.0, -4, 0.0);
        due(Bench.REMAINDER, -0.0, 4, -0.0);
    }

    private static void remainderOfTheInfinite() {
        CHECK.sentence("% is no number if the first is infinite");
        for (double b : new double[] {0.0, -0.0, LEAST, -1, MOST, INFINITE, -INFINITE}) {
            due(Bench.REMAINDER, INFINITE, b, NONE);
            due(Bench.REMAINDER, -INFINITE, b, NONE);
        }
        due(Bench.REMAINDER, MOST, MOST, 0.0);
    }

    private static void remainderByZero() {
        CHECK.sentence("% is no number if the second is 0");
        for (double a : new double[] {0.0, -0.0, LEAST, -1, MOST}) {
            due(Bench.REMAINDER, a, 0.0, NONE);
            due(Bench.REMAINDER, a, -0.0, NONE);
        }
        due(Bench.REMAINDER, 1, LEAST, 0.0);
        due(Bench.REMAINDER, 1, -LEAST, 0.0);
        due(Bench.REMAINDER, 0.0, LEAST, 0.0);
    }

    private static void remainderByTheInfinite() {
        CHECK.sentence("% is the first itself if the second alone is infinite");
        for (double a : new double[] {0.0, -0.0, LEAST, -LEAST, 1, -1, MOST, -MOST}) {
            due(Bench.REMAINDER, a, INFINITE, a);
            due(Bench.REMAINDER, a, -INFINITE, a);
        }
        due(Bench.REMAINDER, -MOST, MOST, -0.0);
    }

    private static void remainderOfFloats() {
        CHECK.sentence("% of floats: the special cases after (f) of both");
        due(Bench.FLOAT_REMAINDER, 1, 0.1f, 0x1.999996p-4);
        due(Bench.FLOAT_REMAINDER, -MOST_FLOAT, LEAST_FLOAT, -0.0);
        due(Bench.FLOAT_REMAINDER, MOST_FLOAT, Math.nextDown(MOST_FLOAT), 0x1p104);
        due(Bench.FLOAT_REMAINDER, NORMAL_FLOAT, 0x0.fffffep-126, LEAST_FLOAT);
        due(Bench.FLOAT_REMAINDER, 7, 0x1.fffffefffffffp127, 7);
        due(Bench.FLOAT_REMAINDER, -MOST_FLOAT, 0x1.fffffefffffffp127, -0.0);
        due(Bench.FLOAT_REMAINDER, -MOST_FLOAT, 0x1.ffffffp127, -MOST_FLOAT);
        due(Bench.FLOAT_REMAINDER, 0x1.ffffffp127, 7, NONE);
        due(Bench.FLOAT_REMAINDER, 7, 0x1p-150, NONE);
        due(Bench.FLOAT_REMAINDER, 7, Math.nextUp(0x1p-150), 0.0);
        due(Bench.FLOAT_REMAINDER, -0x1p-150, 7, -0.0);
    }

    private static void floatsOnlyIfBothAre() {
        CHECK.sentence("as a FLOAT if both are, else as a DOUBLE (a FLOAT is a DOUBLE then)");
        Bench bench = new Bench(CHECK);
        bench.set(0, Bench.M, 0x1p100);
        bench.setField(Bench.GX, 0x1p100);
        bench.setField(Bench.DT, 1);
        bench.set(0, Bench.U, 1 + U);
        bench.step(1);
        // m * gx is a double, since gx is one; as a float it would be infinite.
        bench.due(0, Bench.U, 0x1p100);
        bench.set(0, Bench.M, 0x1p-149);
        bench.setField(Bench.GX, 0x1p-149);
        bench.set(0, Bench.U, 0);
        bench.step(1);
        bench.due(0, Bench.U, 0x1p-149);
    }

    private static void makesTheNearestFloat() {
        CHECK.sentence("(f) makes the nearest FLOAT of a DOUBLE");
        due(Bench.TO_FLOAT, Math.nextDown(1 + FU / 2), 0, 1);
        due(Bench.TO_FLOAT, 1 + FU / 2, 0, 1);
        due(Bench.TO_FLOAT, Math.nextUp(1 + FU / 2), 0, 1 + FU);
        due(Bench.TO_FLOAT, Math.nextDown(1 + FU * 3 / 2), 0, 1 + FU);
        due(Bench.TO_FLOAT, 1 + FU * 3 / 2, 0, 1 + 2 * FU);
        due(Bench.TO_FLOAT, 2 - FU / 2, 0, 2);
        due(Bench.TO_FLOAT, Math.nextDown(2 - FU / 2), 0, 2 - FU);
        due(Bench.TO_FLOAT, MOST_FLOAT, 0, MOST_FLOAT);
        due(Bench.TO_FLOAT, 0x1.fffffefffffffp127, 0, MOST_FLOAT);
        due(Bench.TO_FLOAT, 0x1.ffffffp127, 0, INFINITE);
        due(Bench.TO_FLOAT, -0x1.ffffffp127, 0, -INFINITE);
        due(Bench.TO_FLOAT, 0x1p128, 0, INFINITE);
        due(Bench.TO_FLOAT, MOST, 0, INFINITE);
        due(Bench.TO_FLOAT, -INFINITE, 0, -INFINITE);
        due(Bench.TO_FLOAT, 0x1.fffffep-127, 0, NORMAL_FLOAT);
        due(Bench.TO_FLOAT, Math.nextDown(0x1.fffffep-127), 0, 0x0.fffffep-126);
        due(Bench.TO_FLOAT, 0x1.8p-149, 0, 0x1p-148);
        due(Bench.TO_FLOAT, Math.nextDown(0x1.8p-149), 0, LEAST_FLOAT);
        due(Bench.TO_FLOAT, 0x1.4p-148, 0, 0x1p-148);
        due(Bench.TO_FLOAT, Math.nextUp(0x1p-150), 0, LEAST_FLOAT);
        due(Bench.TO_FLOAT, 0x1p-150, 0, 0.0);
        due(Bench.TO_FLOAT, -Math.nextUp(0x1p-150), 0, -LEAST_FLOAT);
        due(Bench.TO_FLOAT, -0x1p-150, 0, -0.0);
        due(Bench.TO_FLOAT, NORMAL, 0, 0.0);
        due(Bench.TO_FLOAT, -LEAST, 0, -0.0);
        due(Bench.TO_FLOAT, -0.0, 0, -0.0);
        due(Bench.TO_FLOAT, NONE, 0, NONE);
    }

    private static void comparesAsNumbers() {
        CHECK.sentence("< > compare as numbers");
        compareDue(1, 1 + U, 1 | 2 | 8);
        compareDue(1, 1, 2 | 4 | 16);
        compareDue(1 + U, 1, 8 | 16 | 32);
        compareDue(-1, -1 - U, 8 | 16 | 32);
        compareDue(-LEAST, 0.0, 1 | 2 | 8);
        compareDue(-LEAST, LEAST, 1 | 2 | 8);
        compareDue(LEAST, -0.0, 8 | 16 | 32);
        compareDue(0.0, -0.0, 2 | 4 | 16);
        compareDue(-0.0, 0.0, 2 | 4 | 16);
        compareDue(MOST, INFINITE, 1 | 2 | 8);
        compareDue(-MOST, -INFINITE, 8 | 16 | 32);
        compareDue(INFINITE, INFINITE, 2 | 4 | 16);
        compareDue(-INFINITE, -INFINITE, 2 | 4 | 16);
        compareDue(-INFINITE, INFINITE, 1 | 2 | 8);
    }

    private static void comparesFalseWithNone() {
        CHECK.sentence("< > are false with one that is none");
        for (double a : new double[] {0.0, -0.0, 1, -1, MOST, INFINITE, -INFINITE, NONE}) {
            compareDue(a, NONE, 8);
            compareDue(NONE, a, 8);
        }
    }

    private static void compareDue(double a, double b, int want) {
        Bench bench = new Bench(CHECK);
        bench.keep(0, a);
        bench.keep(7, b);
        CHECK.due("compare " + a + " and " + b, bench.lab.compare(0, 7), want);
    }

    private static void bitsOfNoNumber() {
        CHECK.sentence("BITS of one that is no number are told as 7ff8000000000000 (of FLOATS 7fc00000)");
        long[] none = {0x7ff0000000000001L, 0x7ff7ffffffffffffL, 0x7ff8000000000000L, 0x7ff8000000000001L, Long.MAX_VALUE,
            0xfff0000000000001L, 0xfff7ffffffffffffL, 0xfff8000000000000L, -1L};
        for (long bits : none) {
            toldAs(bits, 0x7ff8000000000000L, 0x7fc00000);
        }
        toldAs(0x7ff0000000000000L, 0x7ff0000000000000L, 0x7f800000);
        toldAs(0xfff0000000000000L, 0xfff0000000000000L, 0xff800000);
        int[] noneOfFloats = {0x7f800001, 0x7fbfffff, 0x7fc00000, 0x7fffffff, 0xff800001, 0xffc00000, -1};
        for (int bits : noneOfFloats) {
            floatToldAs(bits, 0x7ff8000000000000L, 0x7fc00000);
        }
        floatToldAs(0x7f800000, 0x7ff0000000000000L, 0x7f800000);
        floatToldAs(0xff800000, 0xfff0000000000000L, 0xff800000);
    }

    private static void toldAs(long bits, long want, int wantOfFloat) {
        MotionLab lab = new MotionLab();
        String of = " of BITS " + Long.toHexString(bits);
        for (int what = 0; what < Bench.BODY_NUMBERS; what++) {
            lab.body(2, what, bits);
            CHECK.due("tell" + of, lab.tell(2, what), want);
            lab.field(what, bits);
            CHECK.due("about" + of, lab.about(what), want);
        }
        lab.keep(0, bits);
        CHECK.due("single" + of, lab.single(0), wantOfFloat);
        CHECK.due("(f)" + of, lab.reckon(Bench.TO_FLOAT, 1, 0, 0), want);
        CHECK.due("the less" + of, lab.reckon(Bench.LESS, 1, 0, 0), want);
        CHECK.due("the greater" + of, lab.reckon(Bench.GREATER, 1, 0, 0), want);
        CHECK.due("twice the other sign" + of, turnedTwice(lab), want);
        CHECK.due("ROOT" + of, lab.reckon(Bench.ROOT, 1, 0, 0), want);
        CHECK.due("a sum" + of, lab.reckon(Bench.ADD, 1, 0, 7), want);
        lab.keep(1, 0);
        CHECK.due("horner" + of, lab.horner(7), want);
        // A mean with one that is infinite before the last is none, too, and so is the energy here.
        CHECK.due("mean" + of, lab.mean(0, 0), NONE);
        CHECK.due("energy" + of, lab.energy(), NONE);
    }

    private static long turnedTwice(MotionLab lab) {
        lab.reckon(Bench.NEGATE, 1, 0, 0);
        return lab.reckon(Bench.NEGATE, 1, 1, 0);
    }

    private static void floatToldAs(int bits, long want, int wantOfFloat) {
        MotionLab lab = new MotionLab();
        String of = " of a float's BITS " + Integer.toHexString(bits);
        CHECK.due("fromSingle" + of, lab.fromSingle(4, bits), want);
        CHECK.due("single" + of, lab.single(4), wantOfFloat);
        CHECK.due("the less" + of, lab.reckon(Bench.LESS, 4, 4, 4), want);
    }

    private static void rootIsItself() {
        CHECK.sentence("ROOT of d: d itself, if d is not above 0, or is infinite");
        for (double d : new double[] {0.0, -0.0, -LEAST, -1, -4, -MOST, -INFINITE, INFINITE, NONE}) {
            due(Bench.ROOT, d, 9, d);
        }
    }

    private static void rootOfTheSmallestAndGreatest() {
        CHECK.sentence("ROOT of d: else s ...; then five times s = (s + d / s) / 2.0");
        due(Bench.ROOT, LEAST, 9, 0x1.800000000038fp-517);
        due(Bench.ROOT, 2 * LEAST, 9, 0x1.800000000071ap-517);
        due(Bench.ROOT, 3 * LEAST, 9, 0x1.8000000000aa9p-517);
        due(Bench.ROOT, NORMAL, 9, 0x1p-511);
        due(Bench.ROOT, 0x0.fffffffffffffp-1022, 9, 0x1.fffffffffffffp-512);
        due(Bench.ROOT, MOST, 9, 0x1p512);
    }

    private static void rootStartAndRounds() {
        CHECK.sentence("ROOT: the double whose BITS are half those of d, rounded down, and 2303591209400008704 more");
        // Five rounds do not get near the root of the least double, so its last bits show the start.
        long half = 1 / 2 + 2303591209400008704L;
        double s = Double.longBitsToDouble(half);
        for (int round = 0; round < 5; round++) {
            s = (s + LEAST / s) / 2.0;
        }
        due(Bench.ROOT, LEAST, 9, s);
        CHECK.sentence("ROOT is s, also where the exact root has another last bit");
        due(Bench.ROOT, 2, 9, 0x1.6a09e667f3bccp0);
        due(Bench.ROOT, 985, 9, 0x1.f627c54f1e0acp4);
        due(Bench.ROOT, 748, 9, 0x1.b597ea47fdda2p4);
        due(Bench.ROOT, 1, 9, 1);
        due(Bench.ROOT, 0.25, 9, 0.5);
    }

    private static void storesAreZeroAtFirst() {
        CHECK.sentence("STORE, A to H: eight doubles, 0 at first");
        Bench bench = new Bench(CHECK);
        for (int k = 0; k < Bench.STORES; k++) {
            bench.storeDue(k, 0.0);
        }
        bench.keep(7, 5);
        bench.storeDue(7, 5);
        CHECK.due("a ninth store", bench.lab.keep(8, 0), MotionLab.REFUSED);
    }

    private static void usedFor512Calls() {
        CHECK.sentence("An object is used for at most 512 calls after it has been made");
        MotionLab lab = new MotionLab();
        lab.body(0, Bench.U, Check.bits(1.0));
        for (int call = 2; call <= 511; call++) {
            lab.step(1);
        }
        CHECK.due("the 512th call", lab.tell(0, Bench.X), 510 * 0.125);
    }
}
