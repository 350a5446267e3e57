/** Promises 9 to 13 and 16 to 18, sentence by sentence: each edge from the inside and from the outside. */
public final class StoresEdgesTest {
    private static final double INFINITE = Bench.INFINITE, NONE = Bench.NONE;
    private static final double LEAST = Bench.LEAST, NORMAL = Bench.NORMAL, MOST = Bench.MOST;
    private static final int OPS = 15, CASTS = 5, WHOLES = 2;
    private static final int INT = 0, LONG = 1, SHORT = 2, CHAR = 3, BYTE = 4;
    private static final int LESS_BITS = 1 | 2 | 8, SAME_BITS = 2 | 4 | 16, GREATER_BITS = 8 | 16 | 32;

    private static final Check CHECK = new Check();

    public static void main(String[] args) {
        promise9();
        promise10();
        promise11();
        promise12();
        promise13();
        promise16();
        promise17();
        promise18();
        CHECK.end();
    }

    private static Bench filled() {
        Bench bench = new Bench(CHECK);
        bench.fill();
        return bench;
    }

    private static void promise9() {
        keepInside();
        keepRefuses();
    }

    private static void keepInside() {
        CHECK.sentence("keep: Store k becomes the double with these BITS: 0");
        for (int k = 0; k < Bench.STORES; k++) {
            Bench bench = filled();
            bench.keep(k, 77);
            for (int other = 0; other < Bench.STORES; other++) {
                bench.storeDue(other, other == k ? 77 : other - 3.75);
            }
        }
        Bench bench = new Bench(CHECK);
        for (double d : new double[] {-0.0, LEAST, -LEAST, NORMAL, Math.nextDown(NORMAL), MOST, -MOST, INFINITE, -INFINITE}) {
            bench.keep(7, d);
            bench.storeDue(7, d);
        }
        CHECK.due("keep of the last BITS that are infinite", bench.lab.keep(0, 0x7ff0000000000000L), 0);
        bench.storeDue(0, INFINITE);
        CHECK.due("keep of the first that are no number", bench.lab.keep(0, 0x7ff0000000000001L), 0);
        bench.storeDue(0, NONE);
        CHECK.due("keep of -1", bench.lab.keep(0, -1L), 0);
        bench.storeDue(0, NONE);
    }

    private static void keepRefuses() {
        CHECK.sentence("keep: REFUSED for another k");
        for (int wrong : Bench.outside(Bench.STORES)) {
            Bench bench = filled();
            long[] before = bench.state();
            CHECK.due("keep(" + wrong + ")", bench.lab.keep(wrong, 5), MotionLab.REFUSED);
            bench.unchanged("keep(" + wrong + ")", before);
        }
    }

    private static void promise10() {
        reckonOps();
        reckonStores();
        reckonRefusesOps();
        reckonRefusesStores();
        reckonRefusesUnusedStores();
        otherSign();
        lessAndGreater();
        lessAndGreaterOfZeros();
        lessAndGreaterOfNone();
    }

    private static void reckonOps() {
        CHECK.sentence("reckon: Store k becomes, op 0: a + b, ... 14: the greater; of stores a, b: its BITS");
        double a = 7.1;
        double b = 2.3;
        float fa = 0x1.c66666p2f;
        float fb = 0x1.266666p1f;
        double[] wants = {a + b, a - b, a * b, a / b, a % b, Reference.root(a), -a, fa,
            fa + fb, fa - fb, fa * fb, fa / fb, fa % fb, b, a};
        for (int op = 0; op < OPS; op++) {
            Bench bench = filled();
            bench.keep(0, a);
            bench.keep(7, b);
            CHECK.due("reckon(" + op + ", 4, 0, 7)", bench.lab.reckon(op, 4, 0, 7), wants[op]);
            bench.storeDue(4, wants[op]);
            bench.storeDue(0, a);
            bench.storeDue(7, b);
            for (int other : new int[] {1, 2, 3, 5, 6}) {
                bench.storeDue(other, other - 3.75);
            }
        }
    }

    private static void reckonStores() {
        CHECK.sentence("reckon: Store k becomes .. of stores a, b: k may be one of them, and a may be b");
        Bench bench = filled();
        CHECK.due("a and b the first and the last", bench.lab.reckon(Bench.SUBTRACT, 3, 0, 7), -7.0);
        CHECK.due("k is a", bench.lab.reckon(Bench.SUBTRACT, 0, 0, 7), -7.0);
        bench.storeDue(0, -7);
        CHECK.due("k is b", bench.lab.reckon(Bench.SUBTRACT, 7, 6, 7), -1.0);
        bench.storeDue(7, -1);
        CHECK.due("all are one", bench.lab.reckon(Bench.SUBTRACT, 7, 7, 7), 0.0);
        bench.storeDue(7, 0);
        bench.storeDue(6, 2.25);
    }

    private static void reckonRefusesOps() {
        CHECK.sentence("reckon: 1 for other numbers: of op");
        for (int wrong : Bench.outside(OPS)) {
            Bench bench = filled();
            long[] before = bench.state();
            CHECK.due("reckon(" + wrong + ", 0, 1, 2)", bench.lab.reckon(wrong, 0, 1, 2), 1);
            bench.unchanged("reckon of op " + wrong, before);
        }
    }

    private static void reckonRefusesStores() {
        CHECK.sentence("reckon: 1 for other numbers: of k, a or b");
        for (int wrong : Bench.outside(Bench.STORES)) {
            Bench bench = filled();
            long[] before = bench.state();
            for (int op = 0; op < OPS; op++) {
                CHECK.due("reckon(" + op + ", " + wrong + ", 0, 0)", bench.lab.reckon(op, wrong, 0, 0), 1);
                CHECK.due("reckon(" + op + ", 7, " + wrong + ", 0)", bench.lab.reckon(op, 7, wrong, 0), 1);
                CHECK.due("reckon(" + op + ", 7, 0, " + wrong + ")", bench.lab.reckon(op, 7, 0, wrong), 1);
            }
            bench.unchanged("reckon of store " + wrong, before);
        }
    }

    private static void reckonRefusesUnusedStores() {
        CHECK.sentence("reckon: 1 for other numbers (also of a b that op does not use)");
        for (int op : new int[] {Bench.ROOT, Bench.NEGATE, Bench.TO_FLOAT}) {
            Bench bench = filled();
            bench.keep(5, 4);
            bench.keep(7, NONE);
            CHECK.due("reckon(" + op + ", 1, 5, -1)", bench.lab.reckon(op, 1, 5, -1), 1);
            CHECK.due("reckon(" + op + ", 1, 5, 8)", bench.lab.reckon(op, 1, 5, 8), 1);
            bench.storeDue(1, -2.75);
            // A right b is not looked at, even one that is no number.
            double want = op == Bench.ROOT ? 2 : op == Bench.NEGATE ? -4 : 4;
            CHECK.due("reckon(" + op + ", 1, 5, 0)", bench.lab.reckon(op, 1, 5, 0), want);
            CHECK.due("reckon(" + op + ", 1, 5, 7)", bench.lab.reckon(op, 1, 5, 7), want);
            bench.storeDue(1, want);
        }
    }

    private static void reckonDue(int op, double a, double b, double want) {
        Bench bench = new Bench(CHECK);
        bench.keep(1, a);
        bench.keep(2, b);
        CHECK.due("reckon " + op + " of " + a + " and " + b, bench.lab.reckon(op, 0, 1, 2), want);
        bench.storeDue(0, want);
    }

    private static void otherSign() {
        CHECK.sentence("reckon 6: a with the other sign");
        for (double d : new double[] {0.0, LEAST, 1, MOST, INFINITE}) {
            reckonDue(Bench.NEGATE, d, 9, -d);
            reckonDue(Bench.NEGATE, -d, 9, d);
        }
        reckonDue(Bench.NEGATE, NONE, 9, NONE);
    }

    private static void lessAndGreater() {
        CHECK.sentence("reckon 13: the less of both, 14: the greater");
        double[] rising = {-INFINITE, -MOST, Math.nextDown(-1.0), -1, -NORMAL, -LEAST, 0.0, LEAST, NORMAL, 1,
            Math.nextUp(1.0), MOST, INFINITE};
        for (int n = 0; n < rising.length; n++) {
            reckonDue(Bench.LESS, rising[n], rising[n], rising[n]);
            reckonDue(Bench.GREATER, rising[n], rising[n], rising[n]);
            int next = Math.min(n + 1, rising.length - 1);
            reckonDue(Bench.LESS, rising[n], rising[next], rising[n]);
            reckonDue(Bench.LESS, rising[next], rising[n], rising[n]);
            reckonDue(Bench.GREATER, rising[n], rising[next], rising[next]);
            reckonDue(Bench.GREATER, rising[next], rising[n], rising[next]);
        }
    }

    private static void lessAndGreaterOfZeros() {
        CHECK.sentence("reckon 13, 14: -0 is less than 0");
        reckonDue(Bench.LESS, -0.0, 0.0, -0.0);
        reckonDue(Bench.LESS, 0.0, -0.0, -0.0);
        reckonDue(Bench.LESS, 0.0, 0.0, 0.0);
        reckonDue(Bench.LESS, -0.0, -0.0, -0.0);
        reckonDue(Bench.LESS, -0.0, LEAST, -0.0);
        reckonDue(Bench.LESS, -0.0, -LEAST, -LEAST);
        reckonDue(Bench.GREATER, -0.0, 0.0, 0.0);
        reckonDue(Bench.GREATER, 0.0, -0.0, 0.0);
        reckonDue(Bench.GREATER, 0.0, 0.0, 0.0);
        reckonDue(Bench.GREATER, -0.0, -0.0, -0.0);
        reckonDue(Bench.GREATER, 0.0, -LEAST, 0.0);
        reckonDue(Bench.GREATER, -0.0, -LEAST, -0.0);
    }

    private static void lessAndGreaterOfNone() {
        CHECK.sentence("reckon 13, 14: if one is no number: that");
        for (double d : new double[] {0.0, -0.0, 1, -MOST, INFINITE, -INFINITE, NONE}) {
            for (int op = Bench.LESS; op <= Bench.GREATER; op++) {
                reckonDue(op, d, NONE, NONE);
                reckonDue(op, NONE, d, NONE);
            }
        }
    }

    private static void promise11() {
        wholeOfDoubles();
        wholeOfFloats();
        wholeFloatsFromTheNumber();
        wholeRefuses();
    }

    private static void wholeDue(int kind, long v, double want) {
        Bench bench = new Bench(CHECK);
        CHECK.due("whole(6, " + kind + ", " + v + ")", bench.lab.whole(6, kind, v), want);
        bench.storeDue(6, want);
        bench.storeDue(5, 0);
        bench.storeDue(7, 0);
    }

    private static void wholeOfDoubles() {
        CHECK.sentence("whole: Store k becomes the double nearest to a whole number (kind 0): its BITS");
        wholeDue(0, 0, 0.0);
        wholeDue(0, 1, 1);
        wholeDue(0, -1, -1);
        long exact = 1L << 53;
        wholeDue(0, exact - 1, 0x1.fffffffffffffp52);
        wholeDue(0, exact, 0x1p53);
        wholeDue(0, exact + 1, 0x1p53);
        wholeDue(0, exact + 2, 0x1p53 + 2);
        wholeDue(0, exact + 3, 0x1p53 + 4);
        wholeDue(0, -exact - 1, -0x1p53);
        wholeDue(0, -exact - 3, -0x1p53 - 4);
        wholeDue(0, 2 * exact + 2, 0x1p54);
        wholeDue(0, 2 * exact + 3, 0x1p54 + 4);
        wholeDue(0, Long.MAX_VALUE, 0x1p63);
        wholeDue(0, 0x7ffffffffffffe00L, 0x1p63);
        wholeDue(0, 0x7ffffffffffffdffL, Math.nextDown(0x1p63));
        wholeDue(0, Long.MIN_VALUE, -0x1p63);
        wholeDue(0, Long.MIN_VALUE + 512, -0x1p63);
        wholeDue(0, Long.MIN_VALUE + 513, -Math.nextDown(0x1p63));
        wholeDue(0, 1L << 62, 0x1p62);
    }

    private static void wholeOfFloats() {
        CHECK.sentence("whole: or the float nearest to it (1): its BITS");
        wholeDue(1, 0, 0.0);
        wholeDue(1, -1, -1);
        long exact = 1L << 24;
        wholeDue(1, exact - 1, 0x1.fffffep23);
        wholeDue(1, exact, 0x1p24);
        wholeDue(1, exact + 1, 0x1p24);
        wholeDue(1, exact + 2, 0x1p24 + 2);
        wholeDue(1, exact + 3, 0x1p24 + 4);
        wholeDue(1, -exact - 1, -0x1p24);
        wholeDue(1, -exact - 3, -0x1p24 - 4);
        wholeDue(1, Integer.MAX_VALUE, 0x1p31);
        wholeDue(1, Integer.MIN_VALUE, -0x1p31);
        wholeDue(1, Long.MAX_VALUE, 0x1p63);
        wholeDue(1, 0x7fffffc000000000L, 0x1p63);
        wholeDue(1, 0x7fffffbfffffffffL, Math.nextDown(0x1p63f));
        wholeDue(1, Long.MIN_VALUE, -0x1p63);
        wholeDue(1, Long.MIN_VALUE + (1L << 38), -0x1p63);
        wholeDue(1, Long.MIN_VALUE + (1L << 38) + 1, -Math.nextDown(0x1p63f));
    }

    private static void wholeFloatsFromTheNumber() {
        CHECK.sentence("whole: the float nearest to the whole number, not to the double nearest to it");
        // One above or below the half of two floats; the double nearest to it is the half.
        long half = (1L << 60) + (1L << 36);
        wholeDue(1, half, 0x1p60);
        wholeDue(1, half + 1, 0x1p60 + 0x1p37);
        wholeDue(1, half - 1, 0x1p60);
        long oddHalf = (1L << 60) + 3 * (1L << 36);
        wholeDue(1, oddHalf, 0x1p60 + 0x1p38);
        wholeDue(1, oddHalf - 1, 0x1p60 + 0x1p37);
        wholeDue(1, -oddHalf + 1, -0x1p60 - 0x1p37);
        wholeDue(1, -half - 1, -0x1p60 - 0x1p37);
    }

    private static void wholeRefuses() {
        CHECK.sentence("whole: 1 for other numbers");
        for (int wrong : Bench.outside(Bench.STORES)) {
            Bench bench = filled();
            long[] before = bench.state();
            CHECK.due("whole(" + wrong + ", 0)", bench.lab.whole(wrong, 0, 5), 1);
            CHECK.due("whole(" + wrong + ", 1)", bench.lab.whole(wrong, 1, 5), 1);
            bench.unchanged("whole(" + wrong + ", ..)", before);
        }
        for (int wrong : Bench.outside(WHOLES)) {
            Bench bench = filled();
            long[] before = bench.state();
            CHECK.due("whole(0, " + wrong + ")", bench.lab.whole(0, wrong, 5), 1);
            CHECK.due("whole(7, " + wrong + ")", bench.lab.whole(7, wrong, 5), 1);
            bench.unchanged("whole(.., " + wrong + ")", before);
        }
        for (int k = 0; k < Bench.STORES; k += 7) {
            Bench bench = filled();
            CHECK.due("whole(" + k + ", 0)", bench.lab.whole(k, 0, 5), 5.0);
            CHECK.due("whole(" + k + ", 1)", bench.lab.whole(k, 1, 6), 6.0);
            bench.storeDue(k, 6);
        }
    }

    private static void promise12() {
        castToInt();
        castToLong();
        castToShort();
        castToChar();
        castToByte();
        castOfNone();
        castRefuses();
    }

    private static void castDue(int kind, double d, long want) {
        Bench bench = new Bench(CHECK);
        bench.keep(7, d);
        CHECK.due("cast of " + d + " as " + kind, bench.lab.cast(7, kind), want);
        bench.storeDue(7, d);
    }

    private static void castToInt() {
        CHECK.sentence("cast 0: int, cut to 0, at the ends the greatest and the least");
        castDue(INT, 0.0, 0);
        castDue(INT, -0.0, 0);
        castDue(INT, LEAST, 0);
        castDue(INT, Math.nextDown(1.0), 0);
        castDue(INT, 1, 1);
        castDue(INT, -Math.nextDown(1.0), 0);
        castDue(INT, -1, -1);
        castDue(INT, Math.nextDown(2.0), 1);
        castDue(INT, Math.nextUp(-2.0), -1);
        castDue(INT, 2147483646.5, 2147483646);
        castDue(INT, 2147483647, 2147483647);
        castDue(INT, Math.nextDown(0x1p31), 2147483647);
        castDue(INT, 0x1p31, 2147483647);
        castDue(INT, -2147483647.5, -2147483647);
        castDue(INT, -0x1p31, -2147483648);
        castDue(INT, -2147483648.5, -2147483648);
        castDue(INT, -2147483649.0, -2147483648);
        castDue(INT, 4294967296.0, 2147483647);
        castDue(INT, MOST, 2147483647);
        castDue(INT, -MOST, -2147483648);
        castDue(INT, INFINITE, 2147483647);
        castDue(INT, -INFINITE, -2147483648);
    }

    private static void castToLong() {
        CHECK.sentence("cast 1: long, cut to 0, at the ends the greatest and the least");
        castDue(LONG, -0.0, 0);
        castDue(LONG, -LEAST, 0);
        castDue(LONG, Math.nextDown(1.0), 0);
        castDue(LONG, Math.nextUp(-2.0), -1);
        castDue(LONG, 0x1p31, 2147483648L);
        castDue(LONG, -2147483649.5, -2147483649L);
        castDue(LONG, Math.nextDown(0x1p52), (1L << 52) - 1);
        castDue(LONG, 0x1p52 + 1, (1L << 52) + 1);
        castDue(LONG, Math.nextUp(0x1p53), (1L << 53) + 2);
        castDue(LONG, Math.nextDown(0x1p63), Long.MAX_VALUE - 1023);
        castDue(LONG, 0x1p63, Long.MAX_VALUE);
        castDue(LONG, Math.nextUp(-0x1p63), Long.MIN_VALUE + 1024);
        castDue(LONG, -0x1p63, Long.MIN_VALUE);
        castDue(LONG, Math.nextDown(-0x1p63), Long.MIN_VALUE);
        castDue(LONG, 0x1p64, Long.MAX_VALUE);
        castDue(LONG, MOST, Long.MAX_VALUE);
        castDue(LONG, INFINITE, Long.MAX_VALUE);
        castDue(LONG, -INFINITE, Long.MIN_VALUE);
    }

    private static void castToShort() {
        CHECK.sentence("cast 2: short: the lowest bits of the int, with a sign");
        castDue(SHORT, Math.nextDown(32768.0), 32767);
        castDue(SHORT, 32768, -32768);
        castDue(SHORT, Math.nextUp(-32769.0), -32768);
        castDue(SHORT, -32769, 32767);
        castDue(SHORT, Math.nextDown(65536.0), -1);
        castDue(SHORT, 65536, 0);
        castDue(SHORT, 2147418112.0, 0);
        endsOfTheInt(SHORT, -1, 0);
    }

    private static void castToChar() {
        CHECK.sentence("cast 3: char: the lowest bits of the int, without a sign");
        castDue(CHAR, Math.nextDown(65536.0), 65535);
        castDue(CHAR, 65536, 0);
        castDue(CHAR, 32768, 32768);
        castDue(CHAR, -Math.nextDown(1.0), 0);
        castDue(CHAR, -1, 65535);
        castDue(CHAR, -65535, 1);
        castDue(CHAR, -65536, 0);
        castDue(CHAR, -65537, 65535);
        endsOfTheInt(CHAR, 65535, 0);
    }

    private static void castToByte() {
        CHECK.sentence("cast 4: byte: the lowest bits of the int, with a sign");
        castDue(BYTE, Math.nextDown(128.0), 127);
        castDue(BYTE, 128, -128);
        castDue(BYTE, Math.nextUp(-129.0), -128);
        castDue(BYTE, -129, 127);
        castDue(BYTE, Math.nextDown(256.0), -1);
        castDue(BYTE, 256, 0);
        endsOfTheInt(BYTE, -1, 0);
    }

    // What is beyond an int is the greatest or the least int first.
    private static void endsOfTheInt(int kind, long greatest, long least) {
        castDue(kind, 2147483647, greatest);
        castDue(kind, 2147483648.0, greatest);
        castDue(kind, 4294967296.0, greatest);
        castDue(kind, MOST, greatest);
        castDue(kind, INFINITE, greatest);
        castDue(kind, -2147483648.0, least);
        castDue(kind, -2147483649.0, least);
        castDue(kind, -4294967297.0, least);
        castDue(kind, -INFINITE, least);
    }

    private static void castOfNone() {
        CHECK.sentence("cast: no number: 0");
        for (int kind = 0; kind < CASTS; kind++) {
            castDue(kind, NONE, 0);
        }
    }

    private static void castRefuses() {
        CHECK.sentence("cast: 2^62 for other numbers");
        Bench bench = filled();
        long[] before = bench.state();
        for (int wrong : Bench.outside(Bench.STORES)) {
            for (int kind = 0; kind < CASTS; kind++) {
                CHECK.due("cast(" + wrong + ", " + kind + ")", bench.lab.cast(wrong, kind), 1L << 62);
            }
        }
        for (int wrong : Bench.outside(CASTS)) {
            CHECK.due("cast(0, " + wrong + ")", bench.lab.cast(0, wrong), 1L << 62);
            CHECK.due("cast(7, " + wrong + ")", bench.lab.cast(7, wrong), 1L << 62);
            CHECK.due("cast(8, " + wrong + ")", bench.lab.cast(8, wrong), 1L << 62);
        }
        CHECK.due("cast(0, 0)", bench.lab.cast(0, 0), -3);
        CHECK.due("cast(7, 4)", bench.lab.cast(7, 4), 3);
        bench.unchanged("cast", before);
    }

    private static void promise13() {
        compareBits();
        compareRefuses();
    }

    private static void compareDue(double a, double b, int want) {
        Bench bench = new Bench(CHECK);
        bench.keep(7, a);
        bench.keep(0, b);
        CHECK.due("compare " + a + " and " + b, bench.lab.compare(7, 0), want);
    }

    private static void compareBits() {
        CHECK.sentence("compare: bits 1: a < b, 2: a <= b, 4: a == b, 8: a != b, 16: a >= b, 32: a > b");
        double[] rising = {-INFINITE, -MOST, Math.nextDown(-1.0), -1, -LEAST, 0.0, LEAST, 1, Math.nextUp(1.0), MOST, INFINITE};
        for (int i = 0; i < rising.length; i++) {
            for (int j = 0; j < rising.length; j++) {
                compareDue(rising[i], rising[j], i < j ? LESS_BITS : i == j ? SAME_BITS : GREATER_BITS);
            }
        }
        CHECK.sentence("compare: 8 alone if one is no number");
        for (double d : rising) {
            compareDue(d, NONE, 8);
            compareDue(NONE, d, 8);
        }
        compareDue(NONE, NONE, 8);
        CHECK.sentence("compare: 0 and -0 are the same");
        compareDue(0.0, -0.0, SAME_BITS);
        compareDue(-0.0, 0.0, SAME_BITS);
        compareDue(-0.0, -0.0, SAME_BITS);
        compareDue(-0.0, LEAST, LESS_BITS);
        compareDue(-0.0, -LEAST, GREATER_BITS);
        CHECK.sentence("compare: stores a and b");
        Bench bench = filled();
        CHECK.due("compare(3, 3)", bench.lab.compare(3, 3), SAME_BITS);
        CHECK.due("compare(0, 7)", bench.lab.compare(0, 7), LESS_BITS);
        bench.keep(4, NONE);
        CHECK.due("compare(4, 4)", bench.lab.compare(4, 4), 8);
    }

    private static void compareRefuses() {
        CHECK.sentence("compare: REFUSED for other numbers");
        Bench bench = filled();
        bench.keep(4, NONE);
        long[] before = bench.state();
        for (int wrong : Bench.outside(Bench.STORES)) {
            CHECK.due("compare(" + wrong + ", 0)", bench.lab.compare(wrong, 0), MotionLab.REFUSED);
            CHECK.due("compare(7, " + wrong + ")", bench.lab.compare(7, wrong), MotionLab.REFUSED);
            CHECK.due("compare(4, " + wrong + ")", bench.lab.compare(4, wrong), MotionLab.REFUSED);
            CHECK.due("compare(" + wrong + ", the same)", bench.lab.compare(wrong, wrong), MotionLab.REFUSED);
        }
        bench.unchanged("compare", before);
    }

    private static void promise16() {
        hornerOfEachStore();
        hornerAtTheEdge();
        hornerRefuses();
    }

    private static void hornerOfEachStore() {
        CHECK.sentence("horner: e = h; then e = e * x + c of stores, from G down to A (store x itself has its part, too)");
        double[] powers = {1, 3, 9, 27, 81, 243, 729, 2187};
        for (int x = 0; x < Bench.STORES; x++) {
            for (int c = 0; c < Bench.STORES; c++) {
                Bench bench = new Bench(CHECK);
                bench.keep(x, 3);
                if (c != x) {
                    bench.keep(c, 1);
                }
                double want = c == x ? 3 * powers[x] : powers[c] + 3 * powers[x];
                CHECK.due("horner(" + x + ") with 1 in " + c, bench.lab.horner(x), want);
                bench.storeDue(x, 3);
            }
        }
    }

    private static void hornerAtTheEdge() {
        CHECK.sentence("horner: e * x + c, each to the nearest double");
        Bench bench = new Bench(CHECK);
        CHECK.due("horner of nothing", bench.lab.horner(0), 0.0);
        for (int k = 0; k < Bench.STORES; k++) {
            bench.keep(k, -0.0);
        }
        CHECK.due("horner of -0", bench.lab.horner(7), 0.0);
        bench.keep(1, 1 + 0x1p-52);
        bench.keep(0, -1 - 0x1p-51);
        // The square of 1 + 2^-52 is rounded before c is added.
        CHECK.due("horner of a product that cancels", bench.lab.horner(1), 0.0);
        Bench large = new Bench(CHECK);
        large.keep(0, -MOST);
        large.keep(7, 0x1p127);
        CHECK.due("horner of 2^1016 less the greatest", large.lab.horner(7), 0x1p1016 - MOST);
        // The last product is infinite before the greatest is taken off.
        large.keep(7, 0x1p128);
        CHECK.due("horner of 2^1024 less the greatest", large.lab.horner(7), INFINITE);
        large.keep(7, INFINITE);
        CHECK.due("horner of what is infinite", large.lab.horner(7), INFINITE);
        CHECK.due("horner of an infinite H in 0", large.lab.horner(3), NONE);
        large.keep(7, NONE);
        CHECK.due("horner of no number", large.lab.horner(0), NONE);
    }

    private static void hornerRefuses() {
        CHECK.sentence("horner: 1 for another store");
        Bench bench = filled();
        long[] before = bench.state();
        for (int wrong : Bench.outside(Bench.STORES)) {
            CHECK.due("horner(" + wrong + ")", bench.lab.horner(wrong), 1);
        }
        for (int x = 0; x < Bench.STORES; x++) {
            CHECK.isTrue("horner(" + x + ") is no 1", bench.lab.horner(x) != 1);
        }
        bench.unchanged("horner", before);
    }

    private static void promise17() {
        singleBits();
        singleRefuses();
    }

    private static void singleDue(double d, int want) {
        Bench bench = new Bench(CHECK);
        bench.keep(7, d);
        CHECK.due("single of " + d, bench.lab.single(7), want);
        bench.storeDue(7, d);
    }

    private static void singleBits() {
        CHECK.sentence("single: The BITS of (f) of store k as a float, all 32 as an int (which can be below 0)");
        singleDue(0.0, 0);
        singleDue(-0.0, 0x80000000);
        singleDue(1, 0x3f800000);
        singleDue(-1, 0xbf800000);
        singleDue(1 + 0x1p-24, 0x3f800000);
        singleDue(Math.nextUp(1 + 0x1p-24), 0x3f800001);
        singleDue(1 + 3 * 0x1p-24, 0x3f800002);
        singleDue(2 - 0x1p-24, 0x40000000);
        singleDue(0x1.fffffefffffffp127, 0x7f7fffff);
        singleDue(0x1.ffffffp127, 0x7f800000);
        singleDue(-0x1.fffffefffffffp127, 0xff7fffff);
        singleDue(-0x1.ffffffp127, 0xff800000);
        singleDue(INFINITE, 0x7f800000);
        singleDue(-INFINITE, 0xff800000);
        singleDue(0x1p-126, 0x00800000);
        singleDue(0x1.fffffep-127, 0x00800000);
        singleDue(Math.nextDown(0x1.fffffep-127), 0x007fffff);
        singleDue(-0x0.fffffep-126, 0x807fffff);
        singleDue(0x1p-127, 0x00400000);
        singleDue(0x1.8p-149, 2);
        singleDue(Math.nextDown(0x1.8p-149), 1);
        singleDue(0x1p-149, 1);
        singleDue(Math.nextUp(0x1p-150), 1);
        singleDue(0x1p-150, 0);
        singleDue(-Math.nextUp(0x1p-150), 0x80000001);
        singleDue(-0x1p-150, 0x80000000);
        singleDue(LEAST, 0);
        singleDue(-LEAST, 0x80000000);
        singleDue(NONE, 0x7fc00000);
    }

    private static void singleRefuses() {
        CHECK.sentence("single: 1 for another store");
        Bench bench = filled();
        long[] before = bench.state();
        for (int wrong : Bench.outside(Bench.STORES)) {
            CHECK.due("single(" + wrong + ")", bench.lab.single(wrong), 1);
        }
        for (int k = 0; k < Bench.STORES; k++) {
            CHECK.due("single(" + k + ")", bench.lab.single(k), Check.bits(k - 3.75f));
        }
        bench.unchanged("single", before);
    }

    private static void promise18() {
        fromSingleBits();
        fromSingleAndBack();
        fromSingleRefuses();
    }

    private static void fromSingleDue(int bits, double want) {
        Bench bench = new Bench(CHECK);
        CHECK.due("fromSingle of " + Integer.toHexString(bits), bench.lab.fromSingle(7, bits), want);
        bench.storeDue(7, want);
        bench.storeDue(6, 0);
    }

    private static void fromSingleBits() {
        CHECK.sentence("fromSingle: Store k becomes the float of these BITS: its BITS as a double");
        fromSingleDue(0, 0.0);
        fromSingleDue(0x80000000, -0.0);
        fromSingleDue(1, 0x1p-149);
        fromSingleDue(0x80000001, -0x1p-149);
        fromSingleDue(2, 0x1p-148);
        fromSingleDue(3, 0x1.8p-148);
        fromSingleDue(0x00400000, 0x1p-127);
        fromSingleDue(0x007fffff, 0x0.fffffep-126);
        fromSingleDue(0x00800000, 0x1p-126);
        fromSingleDue(0x00800001, 0x1.000002p-126);
        fromSingleDue(0x3f7fffff, 0x1.fffffep-1);
        fromSingleDue(0x3f800000, 1);
        fromSingleDue(0xbf800001, -0x1.000002p0);
        fromSingleDue(0x7f7fffff, 0x1.fffffep127);
        fromSingleDue(0x7f800000, INFINITE);
        fromSingleDue(0x7f800001, NONE);
        fromSingleDue(0xff7fffff, -0x1.fffffep127);
        fromSingleDue(0xff800000, -INFINITE);
        fromSingleDue(0xff800001, NONE);
        fromSingleDue(0x7fffffff, NONE);
        fromSingleDue(-1, NONE);
    }

    private static void fromSingleAndBack() {
        CHECK.sentence("fromSingle, then single: the same BITS, as every float is a double");
        MotionLab lab = new MotionLab();
        for (int exponent = 0; exponent < 255; exponent++) {
            int bits = exponent << 23 | (exponent * 0x1234567 & 0x7fffff);
            lab.fromSingle(exponent % 8, exponent % 2 == 0 ? bits : bits | 0x80000000);
            CHECK.due("single", lab.single(exponent % 8), exponent % 2 == 0 ? bits : bits | 0x80000000);
        }
    }

    private static void fromSingleRefuses() {
        CHECK.sentence("fromSingle: 1 for another store");
        for (int wrong : Bench.outside(Bench.STORES)) {
            Bench bench = filled();
            long[] before = bench.state();
            CHECK.due("fromSingle(" + wrong + ")", bench.lab.fromSingle(wrong, 0x3f800000), 1);
            bench.unchanged("fromSingle(" + wrong + ")", before);
        }
        for (int k = 0; k < Bench.STORES; k++) {
            Bench bench = filled();
            CHECK.due("fromSingle(" + k + ")", bench.lab.fromSingle(k, 0x42000000), 32.0);
            for (int other = 0; other < Bench.STORES; other++) {
                bench.storeDue(other, other == k ? 32 : other - 3.75);
            }
        }
    }
}
