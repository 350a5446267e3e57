import java.util.Random;

/**
 * Seeded runs, answer by answer beside the machine's own doubles and floats. An object is used for
 * no more than the 512 calls that the document promises.
 */
public final class RandomRunsTest {
    private static final long[] SPECIAL = {
        0L, 1L, 2L, Long.MIN_VALUE, Long.MIN_VALUE + 1, -1L, Long.MAX_VALUE,
        Check.bits(Double.NaN), Check.bits(1.0 / 0), Check.bits(-1.0 / 0), 0x7ff0000000000001L,
        Check.bits(Double.MAX_VALUE), Check.bits(-Double.MAX_VALUE), Check.bits(Double.MIN_NORMAL),
        Check.bits(Double.MIN_NORMAL) - 1, Check.bits((double) Float.MAX_VALUE),
        Check.bits((double) Float.MIN_VALUE), Check.bits((double) Float.MIN_NORMAL),
        Check.bits(0x1.ffffffp127), Check.bits(0x1.fffffefffffffp127), Check.bits(0x1p-150),
        Check.bits(0x1.0000000000001p-150), Check.bits(0x1.8p-149), Check.bits(1.0), Check.bits(-1.0),
        Check.bits(2.0), Check.bits(0.5), Check.bits(0.1), Check.bits(3.0), Check.bits(2147483647.0),
        Check.bits(-2147483648.0), Check.bits(2147483648.5), Check.bits(-2147483649.5), Check.bits(0x1p63),
        Check.bits(-0x1p63), Check.bits(0x1.fffffffffffffp62), Check.bits(65535.9), Check.bits(-32769.0),
    };

    private static final int MOST_CALLS = 512;
    // The most calls of one round of a mixed run, and those that compare all that can be told.
    private static final int CALLS_OF_ROUND = 10;
    private static final int CALLS_OF_STATE = 10 * 8 + 8 + 3 * 10;

    private final Random random;
    private final Check check;
    private MotionLab lab;
    private Reference reference;
    private int used;

    private RandomRunsTest(long seed, Check check) {
        this.random = new Random(seed);
        this.check = check;
        start();
    }

    public static void main(String[] args) {
        Check check = new Check();
        RandomRunsTest runs = new RandomRunsTest(20261115L, check);
        runs.reckonMuch(2_000_000);
        runs.castMuch(500_000);
        for (int run = 0; run < 9_000 && !check.hasWrong(); run++) {
            runs.start();
            runs.mixedRun(run % 3);
        }
        check.end();
    }

    private void start() {
        lab = new MotionLab();
        reference = new Reference();
        used = 0;
    }

    private boolean hasCalls(int more) {
        return used + more <= MOST_CALLS;
    }

    private void due(String call, long got, long want) {
        used++;
        if (used > MOST_CALLS) {
            check.isTrue("this test makes at most " + MOST_CALLS + " calls on an object", false);
        }
        check.due(call, got, want);
    }

    private long anyBits() {
        switch (random.nextInt(8)) {
            case 0:
                return SPECIAL[random.nextInt(SPECIAL.length)];
            case 1:
                return SPECIAL[random.nextInt(SPECIAL.length)] + random.nextInt(5) - 2;
            case 2:
                return Check.bits((double) Float.intBitsToFloat(random.nextInt()));
            case 3:
                return Check.bits((double) random.nextInt(41) - 20);
            case 4:
                return random.nextLong() & 0x801fffffffffffffL;
            case 5:
                // Few bits, so that halves to round and exact results come often.
                return random.nextLong() & (-1L << random.nextInt(53));
            case 6:
                return floatHalfway();
            default:
                return random.nextLong();
        }
    }

    private long floatHalfway() {
        double f = Float.intBitsToFloat(random.nextInt());
        double next = Math.nextUp((float) f);
        return Check.bits((f + next) / 2) + random.nextInt(3) - 1;
    }

    private long partner(long a) {
        switch (random.nextInt(4)) {
            case 0:
                return (a ^ (random.nextLong() & Long.MIN_VALUE)) + random.nextInt(7) - 3;
            case 1:
                // An exponent nearby, so that sums cancel and quotients round close.
                return (a + ((long) (random.nextInt(121) - 60) << 52)) ^ (random.nextLong() >>> 12);
            default:
                return anyBits();
        }
    }

    private long tameBits() {
        switch (random.nextInt(3)) {
            case 0:
                return Check.bits((double) (random.nextInt(9) - 4));
            case 1:
                return Check.bits(random.nextInt(65) / 8.0 - 4);
            default:
                return Check.bits(random.nextGaussian() * 2);
        }
    }

    private void reckonMuch(int times) {
        for (int i = 0; i < times && !check.hasWrong(); i++) {
            if (!hasCalls(2 + 15 + 1)) {
                start();
            }
            long a = anyBits();
            long b = partner(a);
            due("keep " + a, lab.keep(0, a), reference.keep(0, a));
            due("keep " + b, lab.keep(1, b), reference.keep(1, b));
            for (int op = 0; op < 15; op++) {
                due("reckon " + op + " of " + a + " and " + b,
                    lab.reckon(op, 2, 0, 1), reference.reckon(op, 2, 0, 1));
            }
            due("compare " + a + " and " + b, lab.compare(0, 1), reference.compare(0, 1));
        }
    }

    private void castMuch(int times) {
        for (int i = 0; i < times && !check.hasWrong(); i++) {
            if (!hasCalls(2 + 7 + 1 + 2)) {
                start();
            }
            long a = anyBits();
            if (random.nextBoolean()) {
                a = Check.bits(random.nextLong() / (double) (1L << random.nextInt(63)));
            }
            due("keep " + a, lab.keep(3, a), reference.keep(3, a));
            due("single of " + a, lab.single(3), reference.single(3));
            for (int kind = -1; kind < 6; kind++) {
                due("cast of " + a + " as " + kind, lab.cast(3, kind), reference.cast(3, kind));
            }
            int f = random.nextInt() >> random.nextInt(32);
            due("fromSingle of " + f, lab.fromSingle(4, f), reference.fromSingle(4, f));
            long w = random.nextLong() >> random.nextInt(64);
            long wide = random.nextBoolean() ? w : w & (-1L << random.nextInt(60)) | random.nextInt(2);
            for (int kind = 0; kind < 2; kind++) {
                due("whole of " + wide, lab.whole(5, kind, wide), reference.whole(5, kind, wide));
            }
        }
    }

    private int index(int end) {
        return random.nextInt(20) == 0 ? random.nextInt(5 * end) - 2 * end : random.nextInt(end);
    }

    private int floatBits(int wildness) {
        return wildness == 2 ? random.nextInt() : Check.bits(random.nextInt(33) / 8f - 1);
    }

    // Wildness 0: ordinary numbers; 1: now and then any; 2: often any.
    private long numberBits(int wildness) {
        boolean isWild = wildness == 2 ? random.nextInt(3) == 0 : wildness == 1 && random.nextInt(40) == 0;
        return isWild ? anyBits() : tameBits();
    }

    private void mixedRun(int wildness) {
        while (hasCalls(CALLS_OF_ROUND + CALLS_OF_STATE) && !check.hasWrong()) {
            planeCall(wildness);
            storeCall(wildness);
        }
        compareStates();
    }

    private void planeCall(int wildness) {
        int a = index(8);
        int b = index(6);
        long bits = numberBits(wildness);
        switch (random.nextInt(9)) {
            case 0, 1, 2 -> due("body " + a + ", " + b + ", " + bits, lab.body(a, b, bits), reference.body(a, b, bits));
            case 3 -> due("field " + b + ", " + bits, lab.field(b, bits), reference.field(b, bits));
            case 4, 5 -> springCall(a, wildness);
            case 6 -> due("cut", lab.cut(), reference.cut());
            case 7 -> {
                int n = random.nextInt(10) == 0 ? random.nextInt(30) - 4 : random.nextInt(4);
                due("step " + n, lab.step(n), reference.step(n));
                compareRow(random.nextInt(6));
            }
            default -> {
                int what = random.nextInt(8) == 0 ? random.nextInt(5) - 2 : random.nextInt(2);
                due("mean " + b + ", " + what, lab.mean(b, what), reference.mean(b, what));
                due("energy", lab.energy(), reference.energy());
            }
        }
    }

    private void springCall(int i, int wildness) {
        int j = index(8);
        int k = floatBits(wildness);
        int l = floatBits(wildness);
        int c = floatBits(wildness);
        due("spring " + i + ", " + j + ", " + k + ", " + l + ", " + c,
            lab.spring(i, j, k, l, c), reference.spring(i, j, k, l, c));
    }

    private void storeCall(int wildness) {
        int k = index(8);
        int a = index(8);
        int b = index(8);
        int op = index(15);
        long bits = numberBits(wildness);
        switch (random.nextInt(6)) {
            case 0, 1 -> due("keep " + k + ", " + bits, lab.keep(k, bits), reference.keep(k, bits));
            case 2 -> due("reckon " + op, lab.reckon(op, k, a, b), reference.reckon(op, k, a, b));
            case 3 -> due("horner " + k, lab.horner(k), reference.horner(k));
            case 4 -> {
                int kind = index(2);
                due("whole " + k + ", " + kind + ", " + bits, lab.whole(k, kind, bits), reference.whole(k, kind, bits));
            }
            default -> due("fromSingle", lab.fromSingle(k, (int) bits), reference.fromSingle(k, (int) bits));
        }
    }

    private void compareRow(int what) {
        for (int body = 0; body < 8; body++) {
            due("tell " + body + ", " + what, lab.tell(body, what), reference.tell(body, what));
        }
    }

    private void comparePlanes() {
        for (int body = -1; body <= 8; body++) {
            for (int what = -1; what <= 6; what++) {
                due("tell " + body + ", " + what, lab.tell(body, what), reference.tell(body, what));
            }
        }
    }

    private void compareStates() {
        comparePlanes();
        for (int what = -1; what <= 6; what++) {
            due("about " + what, lab.about(what), reference.about(what));
        }
        for (int k = -1; k <= 8; k++) {
            due("single " + k, lab.single(k), reference.single(k));
            due("cast " + k, lab.cast(k, 1), reference.cast(k, 1));
            due("horner " + k, lab.horner(k), reference.horner(k));
        }
    }
}
