/** Promises 1 to 8, 14 and 15 and a STEP, sentence by sentence: each edge from the inside and from the outside. */
public final class PlaneEdgesTest {
    private static final int X = Bench.X, Y = Bench.Y, U = Bench.U, V = Bench.V, M = Bench.M, R = Bench.R;
    private static final int GX = Bench.GX, GY = Bench.GY, DRAG = Bench.DRAG, DT = Bench.DT, WALL = Bench.WALL, BACK = Bench.BACK;
    private static final double INFINITE = Bench.INFINITE, NONE = Bench.NONE, LEAST = Bench.LEAST, MOST = Bench.MOST;
    private static final float LEAST_FLOAT = Float.MIN_VALUE, MOST_FLOAT = Float.MAX_VALUE;
    private static final float FLOAT_INFINITE = Float.POSITIVE_INFINITY;

    private static final Check CHECK = new Check();

    public static void main(String[] args) {
        promise1();
        promises2To8();
        stepOfAllNumbers();
        stepForces();
        stepSprings();
        stepMoves();
        stepWalls();
        stepCollisions();
        promise14();
        promise15();
        CHECK.end();
    }

    private static void promise1() {
        firstStateOfBodies();
        firstStateOfTheField();
        firstStateHasNoSprings();
        objectsShareNothing();
    }

    private static void promises2To8() {
        bodyNumbersInside();
        bodyRefuses();
        bodyMakesFloats();
        fieldNumbersInside();
        fieldRefuses();
        fieldMakesFloats();
        springsUpToTen();
        springRefusesBodies();
        springRefusesBeforeFull();
        springHasFloatsOfTheseBits();
        cutToNone();
        cutTakesTheLatest();
        stepsFrom0To20();
        stepRefuses();
        tellOfOtherNumbers();
        aboutOfOtherNumbers();
    }

    private static void firstStateOfBodies() {
        CHECK.sentence("BODIES 0 to 7: doubles x, y, u, v (0 at first), floats m (1), r (0)");
        Bench bench = new Bench(CHECK);
        for (int body = 0; body < Bench.BODIES; body++) {
            for (int what = X; what <= R; what++) {
                bench.due(body, what, what == M ? 1.0 : 0.0);
            }
        }
    }

    private static void firstStateOfTheField() {
        CHECK.sentence("THE FIELD: doubles gx, gy, drag, all 0; float dt, 0.125; double wall, infinite; float back, 1");
        Bench bench = new Bench(CHECK);
        double[] first = {0.0, 0.0, 0.0, 0.125, INFINITE, 1.0};
        for (int what = GX; what <= BACK; what++) {
            bench.fieldDue(what, first[what]);
        }
    }

    private static void firstStateHasNoSprings() {
        CHECK.sentence("A new object: makes an object in the state that the terms give");
        CHECK.due("cut()", new MotionLab().cut(), MotionLab.NONE);
        CHECK.due("energy()", new MotionLab().energy(), 0.0);
        CHECK.due("spring()", new MotionLab().spring(0, 1, 0, 0, 0), 0);
        Bench bench = new Bench(CHECK);
        long[] before = bench.state();
        bench.step(20);
        bench.unchanged("step(20) of a new object", before);
    }

    private static void objectsShareNothing() {
        CHECK.sentence("A new object: makes an object in the state that the terms give, whatever others hold");
        Bench fresh = new Bench(CHECK);
        long[] before = fresh.state();
        new Bench(CHECK).fill();
        fresh.unchanged("filling another object", before);
        new Bench(CHECK).unchanged("filling an object before", before);
        CHECK.due("cut()", fresh.lab.cut(), MotionLab.NONE);
    }

    private static void bodyNumbersInside() {
        CHECK.sentence("body: WHAT of a body becomes the double with these BITS: 0");
        for (int body = 0; body < Bench.BODIES; body++) {
            for (int what = X; what <= R; what++) {
                Bench bench = new Bench(CHECK);
                bench.set(body, what, -2.5);
                for (int one = 0; one < Bench.BODIES; one++) {
                    bench.due(one, what, one == body ? -2.5 : what == M ? 1.0 : 0.0);
                }
                for (int other = X; other <= R; other++) {
                    bench.due(body, other, other == what ? -2.5 : other == M ? 1.0 : 0.0);
                }
            }
        }
        for (double d : new double[] {-0.0, LEAST, -LEAST, Math.nextDown(Bench.NORMAL), MOST, -INFINITE, Math.nextUp(1.0)}) {
            Bench bench = new Bench(CHECK);
            for (int what = X; what <= V; what++) {
                bench.set(7, what, d);
                bench.due(7, what, d);
            }
        }
    }

    private static void bodyRefuses() {
        CHECK.sentence("body: REFUSED for other numbers");
        for (int wrong : Bench.outside(Bench.BODIES)) {
            Bench bench = new Bench(CHECK);
            bench.fill();
            long[] before = bench.state();
            CHECK.due("body(" + wrong + ", 0)", bench.lab.body(wrong, 0, 5), MotionLab.REFUSED);
            CHECK.due("body(" + wrong + ", 5)", bench.lab.body(wrong, 5, 5), MotionLab.REFUSED);
            bench.unchanged("body(" + wrong + ", ..)", before);
        }
        for (int wrong : Bench.outside(Bench.BODY_NUMBERS)) {
            Bench bench = new Bench(CHECK);
            bench.fill();
            long[] before = bench.state();
            CHECK.due("body(0, " + wrong + ")", bench.lab.body(0, wrong, 5), MotionLab.REFUSED);
            CHECK.due("body(7, " + wrong + ")", bench.lab.body(7, wrong, 5), MotionLab.REFUSED);
            CHECK.due("body(8, " + wrong + ")", bench.lab.body(8, wrong, 5), MotionLab.REFUSED);
            bench.unchanged("body(.., " + wrong + ")", before);
        }
    }

    // Doubles, and the float nearest to each.
    private static final double[][] FLOATS = {
        {1 + 0x1p-24, 1}, {Math.nextUp(1 + 0x1p-24), 1 + 0x1p-23}, {0x1.fffffefffffffp127, MOST_FLOAT},
        {0x1.ffffffp127, INFINITE}, {-0x1.ffffffp127, -INFINITE}, {0x1p-150, 0.0}, {-0x1p-150, -0.0},
        {Math.nextUp(0x1p-150), LEAST_FLOAT}, {-0.0, -0.0}, {INFINITE, INFINITE}, {LEAST, 0.0}, {NONE, NONE}};

    private static void bodyMakesFloats() {
        CHECK.sentence("body: (m, r: (f) of it)");
        Bench bench = new Bench(CHECK);
        for (double[] one : FLOATS) {
            for (int what = X; what <= R; what++) {
                bench.set(3, what, one[0]);
                bench.due(3, what, what >= M ? one[1] : one[0]);
            }
        }
    }

    private static void fieldNumbersInside() {
        CHECK.sentence("field: A number of the field, likewise: 0");
        for (int what = GX; what <= BACK; what++) {
            Bench bench = new Bench(CHECK);
            bench.setField(what, -2.5);
            double[] want = {0.0, 0.0, 0.0, 0.125, INFINITE, 1.0};
            want[what] = -2.5;
            for (int other = GX; other <= BACK; other++) {
                bench.fieldDue(other, want[other]);
            }
        }
    }

    private static void fieldRefuses() {
        CHECK.sentence("field: REFUSED for other numbers, likewise");
        for (int wrong : Bench.outside(Bench.FIELD_NUMBERS)) {
            Bench bench = new Bench(CHECK);
            bench.fill();
            long[] before = bench.state();
            CHECK.due("field(" + wrong + ")", bench.lab.field(wrong, 5), MotionLab.REFUSED);
            bench.unchanged("field(" + wrong + ")", before);
        }
    }

    private static void fieldMakesFloats() {
        CHECK.sentence("field: float dt, float back, likewise (f) of it; the others doubles");
        Bench bench = new Bench(CHECK);
        for (double[] one : FLOATS) {
            for (int what = GX; what <= BACK; what++) {
                bench.setField(what, one[0]);
                bench.fieldDue(what, what == DT || what == BACK ? one[1] : one[0]);
            }
        }
    }

    private static void springsUpToTen() {
        CHECK.sentence("SPRINGS, at most 10, numbered from 0 as they came; spring: its number, FULL if there are 10");
        Bench bench = new Bench(CHECK);
        bench.set(0, X, 1);
        for (int n = 0; n < 10; n++) {
            CHECK.due("spring " + n, bench.addSpring(0, 7, 2, 0, 0), n);
            CHECK.due("energy of " + (n + 1), bench.lab.energy(), n + 1.0);
        }
        CHECK.due("spring 10", bench.addSpring(0, 7, 2, 0, 0), MotionLab.FULL);
        CHECK.due("energy after FULL", bench.lab.energy(), 10.0);
        CHECK.due("cut()", bench.lab.cut(), 9);
        CHECK.due("spring 9 again", bench.addSpring(0, 7, 4, 0, 0), 9);
        CHECK.due("energy", bench.lab.energy(), 11.0);
        CHECK.due("spring 10 again", bench.addSpring(0, 7, 2, 0, 0), MotionLab.FULL);
    }

    private static void springRefusesBodies() {
        CHECK.sentence("spring: REFUSED for other bodies, or one and the same");
        Bench bench = new Bench(CHECK);
        long[] before = bench.state();
        for (int wrong : Bench.outside(Bench.BODIES)) {
            CHECK.due("spring(" + wrong + ", 0)", bench.addSpring(wrong, 0, 1, 1, 1), MotionLab.REFUSED);
            CHECK.due("spring(7, " + wrong + ")", bench.addSpring(7, wrong, 1, 1, 1), MotionLab.REFUSED);
            CHECK.due("spring(" + wrong + ", the same)", bench.addSpring(wrong, wrong, 1, 1, 1), MotionLab.REFUSED);
        }
        for (int body = 0; body < Bench.BODIES; body++) {
            CHECK.due("spring(" + body + ", " + body + ")", bench.addSpring(body, body, 1, 1, 1), MotionLab.REFUSED);
        }
        bench.unchanged("spring of wrong bodies", before);
        CHECK.due("the first spring", bench.addSpring(0, 7, 1, 1, 1), 0);
        CHECK.due("the second", bench.addSpring(7, 0, 1, 1, 1), 1);
        CHECK.due("cut()", bench.lab.cut(), 1);
    }

    private static void springRefusesBeforeFull() {
        CHECK.sentence("spring: REFUSED for other bodies, or one and the same; then FULL if there are 10");
        Bench bench = new Bench(CHECK);
        for (int n = 0; n < 10; n++) {
            bench.addSpring(n % 8, (n + 1) % 8, 1, 1, 1);
        }
        long[] before = bench.state();
        CHECK.due("spring(8, 0)", bench.addSpring(8, 0, 1, 1, 1), MotionLab.REFUSED);
        CHECK.due("spring(0, -1)", bench.addSpring(0, -1, 1, 1, 1), MotionLab.REFUSED);
        CHECK.due("spring(4, 4)", bench.addSpring(4, 4, 1, 1, 1), MotionLab.REFUSED);
        CHECK.due("spring(4, 5)", bench.addSpring(4, 5, 2, 2, 2), MotionLab.FULL);
        bench.unchanged("spring that is refused or too many", before);
        CHECK.due("cut()", bench.lab.cut(), 9);
    }

    private static void springHasFloatsOfTheseBits() {
        CHECK.sentence("spring: with the floats of these BITS");
        springEnergyDue(0x00000001, 0, 0.5 * 0x1p-149 * 4);
        springEnergyDue(0x007fffff, 0, 0.5 * 0x0.fffffep-126 * 4);
        springEnergyDue(0x00800000, 0, 0.5 * 0x1p-126 * 4);
        springEnergyDue(0x80000001, 0, -0.5 * 0x1p-149 * 4);
        springEnergyDue(0x7f7fffff, 0, 0.5 * MOST_FLOAT * 4);
        springEnergyDue(0x7f800000, 0, INFINITE);
        springEnergyDue(0xff800000, 0, -INFINITE);
        springEnergyDue(0x7f800001, 0, NONE);
        springEnergyDue(0xffffffff, 0, NONE);
        springEnergyDue(0x7f800000, 0x40000000, NONE);
        springEnergyDue(0x3f800000, 0x40000000, 0.0);
        springEnergyDue(0x3f800000, 0xc0000000, 0.5 * 4 * 4);
        springEnergyDue(0x3f800000, 0xff800000, INFINITE);
        springEnergyDue(0x00000000, 0x7f800000, NONE);
        springEnergyDue(0x3f800000, 0x7fc00001, NONE);
    }

    // The energy of a spring from a body at 0 to one at 2.
    private static void springEnergyDue(int k, int l, double want) {
        Bench bench = new Bench(CHECK);
        bench.set(1, X, 2);
        CHECK.due("spring", bench.lab.spring(0, 1, k, l, 0x7fc00000), 0);
        CHECK.due("energy with k " + Integer.toHexString(k) + ", l " + Integer.toHexString(l), bench.lab.energy(), want);
    }

    private static void cutToNone() {
        CHECK.sentence("cut: how many are left. NONE if there is none");
        Bench bench = new Bench(CHECK);
        long[] before = bench.state();
        CHECK.due("cut() of none", bench.lab.cut(), MotionLab.NONE);
        bench.unchanged("cut() of none", before);
        for (int n = 0; n < 10; n++) {
            bench.addSpring(0, 1, 1, 1, 1);
        }
        for (int left = 9; left >= 0; left--) {
            CHECK.due("cut()", bench.lab.cut(), left);
        }
        CHECK.due("cut() of none", bench.lab.cut(), MotionLab.NONE);
        CHECK.due("cut() of none again", bench.lab.cut(), MotionLab.NONE);
        CHECK.due("the first spring again", bench.addSpring(0, 1, 1, 1, 1), 0);
        CHECK.due("cut() of one", bench.lab.cut(), 0);
    }

    private static void cutTakesTheLatest() {
        CHECK.sentence("cut: The latest spring goes");
        Bench bench = new Bench(CHECK);
        bench.set(0, X, 1);
        for (int n = 0; n < 10; n++) {
            bench.addSpring(0, n % 7 + 1, 2 << n, 0, 0);
        }
        for (int left = 9; left >= 0; left--) {
            bench.lab.cut();
            CHECK.due("energy of the first " + left, bench.lab.energy(), (double) ((1 << left) - 1));
        }
        bench.setField(DT, 1);
        bench.addSpring(0, 1, 1, 0, 0);
        bench.lab.cut();
        bench.step(1);
        bench.due(0, U, 0.0);
    }

    private static void stepsFrom0To20() {
        CHECK.sentence("step: n STEPS (0 to 20): 0");
        for (int n = 0; n <= 20; n++) {
            Bench bench = new Bench(CHECK);
            bench.set(0, U, 1);
            bench.step(n);
            bench.due(0, X, n * 0.125);
        }
        Bench once = new Bench(CHECK);
        Bench often = new Bench(CHECK);
        once.fill();
        often.fill();
        once.step(20);
        for (int n = 0; n < 20; n++) {
            often.step(1);
        }
        often.unchanged("20 times step(1) beside step(20)", once.state());
        long[] before = often.state();
        often.step(0);
        often.unchanged("step(0)", before);
    }

    private static void stepRefuses() {
        CHECK.sentence("step: REFUSED");
        for (int wrong : Bench.outside(21)) {
            Bench bench = new Bench(CHECK);
            bench.fill();
            long[] before = bench.state();
            CHECK.due("step(" + wrong + ")", bench.lab.step(wrong), MotionLab.REFUSED);
            bench.unchanged("step(" + wrong + ")", before);
        }
    }

    private static void tellOfOtherNumbers() {
        CHECK.sentence("tell: The BITS of WHAT of a body as a double; 1 for other numbers");
        Bench bench = new Bench(CHECK);
        bench.fill();
        long[] before = bench.state();
        for (int wrong : Bench.outside(Bench.BODIES)) {
            CHECK.due("tell(" + wrong + ", 0)", bench.lab.tell(wrong, 0), 1);
            CHECK.due("tell(" + wrong + ", 5)", bench.lab.tell(wrong, 5), 1);
        }
        for (int wrong : Bench.outside(Bench.BODY_NUMBERS)) {
            CHECK.due("tell(0, " + wrong + ")", bench.lab.tell(0, wrong), 1);
            CHECK.due("tell(7, " + wrong + ")", bench.lab.tell(7, wrong), 1);
            CHECK.due("tell(-1, " + wrong + ")", bench.lab.tell(-1, wrong), 1);
        }
        bench.unchanged("tell", before);
        bench.due(0, X, 1.5);
        bench.due(7, R, 1.5 + 7 + 5 * 16.25);
        bench.set(0, R, 0.1);
        CHECK.due("tell of a float as a double", bench.lab.tell(0, R), 0x3fb99999a0000000L);
    }

    private static void aboutOfOtherNumbers() {
        CHECK.sentence("about: The BITS of a number of the field as a double; 1 for another one");
        Bench bench = new Bench(CHECK);
        bench.fill();
        long[] before = bench.state();
        for (int wrong : Bench.outside(Bench.FIELD_NUMBERS)) {
            CHECK.due("about(" + wrong + ")", bench.lab.about(wrong), 1);
        }
        bench.unchanged("about", before);
        bench.fieldDue(GX, 0.25);
        bench.fieldDue(BACK, 5.25);
        bench.setField(BACK, 0.1);
        CHECK.due("about a float as a double", bench.lab.about(BACK), 0x3fb99999a0000000L);
    }

    // Every number differs from all others, so that none can stand in another's place.
    private static void stepOfAllNumbers() {
        CHECK.sentence("A STEP and the energy, with every number");
        for (int start = 0; start < 20; start++) {
            stepOfAllNumbers(start);
        }
    }

    private static void stepOfAllNumbers(int start) {
        MotionLab lab = new MotionLab();
        Reference reference = new Reference();
        for (int body = 0; body < Bench.BODIES; body++) {
            for (int what = X; what <= R; what++) {
                long bits = Check.bits(StrictMath.sin(start * 5 + body * 7 + what * 3 + 0.5) + (what >= M ? 1.25 : 0));
                CHECK.due("body", lab.body(body, what, bits), reference.body(body, what, bits));
            }
        }
        double[] field = {0.3, -0.7, 0.11, 0.0625, 0.9, 0.8};
        for (int what = GX; what <= BACK; what++) {
            CHECK.due("field", lab.field(what, Check.bits(field[what])), reference.field(what, Check.bits(field[what])));
        }
        for (int n = 0; n < 10; n++) {
            int k = Check.bits(0.3f + n);
            int l = Check.bits(0.1f * n);
            int c = Check.bits(0.7f - 0.03f * n);
            CHECK.due("spring", lab.spring(n % 8, (n * 3 + 1) % 8, k, l, c), reference.spring(n % 8, (n * 3 + 1) % 8, k, l, c));
        }
        for (int step = 0; step < 4; step++) {
            CHECK.due("energy", lab.energy(), reference.energy());
            lab.step(1);
            reference.step(1);
            for (int body = 0; body < Bench.BODIES; body++) {
                for (int what = X; what <= R; what++) {
                    CHECK.due("tell(" + body + ", " + what + ")", lab.tell(body, what), reference.tell(body, what));
                }
            }
        }
    }

    private static void stepForces() {
        CHECK.sentence("A STEP: fx = m * gx - drag * u, fy = m * gy - drag * v");
        Bench bench = new Bench(CHECK);
        bench.setField(DT, 1);
        bench.setField(GX, 0x1p1023);
        bench.setField(GY, -0x1p1023);
        bench.setField(DRAG, 1);
        bench.set(0, M, 2);
        bench.set(1, M, 1);
        bench.set(1, U, -0x1p1023);
        bench.set(2, M, -0.0);
        bench.set(3, M, 0);
        bench.step(1);
        // 2 * 2^1023 is infinite before it is divided by 2.
        bench.due(0, U, INFINITE);
        bench.due(0, V, -INFINITE);
        bench.due(0, X, INFINITE);
        bench.due(1, U, INFINITE);
        bench.due(1, V, -0x1p1023);
        bench.due(2, U, NONE);
        bench.due(3, Y, NONE);
        bench.due(7, X, 0x1p1023);
        forcesOfZero();
    }

    private static void forcesOfZero() {
        CHECK.sentence("A STEP: fx = m * gx - drag * u, with 0 and its sign");
        Bench bench = new Bench(CHECK);
        bench.set(0, U, -0.0);
        bench.set(0, X, -0.0);
        bench.setField(GX, -0.0);
        bench.step(1);
        // fx is -0 - 0 * -0, 0; and -0 + 0 is 0.
        bench.due(0, U, 0.0);
        bench.due(0, X, 0.0);
        bench.set(0, U, -0.0);
        bench.set(0, X, -0.0);
        bench.setField(DRAG, -0.0);
        bench.step(1);
        bench.due(0, U, -0.0);
        bench.due(0, X, -0.0);
    }

    private static void stepSprings() {
        springPullsOnlyAboveZero();
        springOfInfiniteLength();
        springOfNoLength();
        springsPullInTheirOrder();
        springsPullBeforeAnyMove();
        springPullsBothWays();
        springDamps();
    }

    private static Bench twoBodies(double dx, float k, float l, float c) {
        Bench bench = new Bench(CHECK);
        bench.setField(DT, 1);
        bench.set(1, X, dx);
        bench.addSpring(0, 1, k, l, c);
        return bench;
    }

    private static void springPullsOnlyAboveZero() {
        CHECK.sentence("A STEP: d = ROOT(dx * dx + dy * dy); if d > 0");
        Bench same = twoBodies(0, 1, 1, 1);
        same.step(1);
        same.due(0, U, 0.0);
        same.due(1, V, 0.0);
        // The squares of these two stand on both sides of half the least double.
        Bench inside = twoBodies(0x1.6a09e667f3bcdp-538, 1, 0, 0);
        inside.step(1);
        inside.due(0, U, 0x1.6a09e667f3bcdp-538);
        inside.due(1, U, -0x1.6a09e667f3bcdp-538);
        inside.due(0, V, 0.0);
        Bench outside = twoBodies(0x1.6a09e667f3bccp-538, 1, 0, 0);
        outside.step(1);
        outside.due(0, U, 0.0);
        outside.due(1, U, 0.0);
        outside.due(1, X, 0x1.6a09e667f3bccp-538);
    }

    private static void springOfInfiniteLength() {
        CHECK.sentence("A STEP: if d > 0, with a d that is infinite");
        Bench inside = twoBodies(Math.nextDown(0x1p512), 1, 0, 0);
        inside.step(1);
        inside.due(0, U, Math.nextDown(0x1p512));
        inside.due(1, X, 0.0);
        Bench outside = twoBodies(0x1p512, 1, 0, 0);
        outside.step(1);
        outside.due(0, U, NONE);
        outside.due(1, X, NONE);
        outside.due(0, V, NONE);
        outside.due(2, X, 0.0);
    }

    private static void springOfNoLength() {
        CHECK.sentence("A STEP: if d > 0, with a d that is no number");
        Bench bench = twoBodies(NONE, 1, 1, 1);
        bench.step(1);
        bench.due(0, U, 0.0);
        bench.due(1, U, 0.0);
        bench.due(1, X, NONE);
        Bench infinite = twoBodies(INFINITE, 1, 1, 1);
        infinite.set(0, X, INFINITE);
        infinite.step(1);
        infinite.due(0, U, 0.0);
        infinite.due(1, X, INFINITE);
    }

    private static void springsPullInTheirOrder() {
        CHECK.sentence("A STEP: Then for each spring, numbered from 0 as they came");
        // 1 and twice 2^-53: one after the other on 1 they change nothing, before it they do.
        float small = 0x1p-53f;
        Bench bench = twoBodies(1, 1, 0, 0);
        bench.addSpring(0, 1, small, 0, 0);
        bench.addSpring(0, 1, small, 0, 0);
        bench.step(1);
        bench.due(0, U, 1);
        bench.due(1, U, -1);
        Bench turned = twoBodies(1, small, 0, 0);
        turned.addSpring(0, 1, small, 0, 0);
        turned.addSpring(0, 1, 1, 0, 0);
        turned.step(1);
        turned.due(0, U, 1 + 0x1p-52);
        turned.due(1, U, -1 - 0x1p-52);
        Bench full = twoBodies(1, 1, 0, 0);
        for (int n = 1; n < 10; n++) {
            full.addSpring(1, 0, 1, 0, 0);
        }
        full.step(1);
        full.due(0, U, 10);
    }

    private static void springsPullBeforeAnyMove() {
        CHECK.sentence("A STEP: Then for each spring, with the bodies' x, y, u, v. Then for each body: ...");
        Bench bench = twoBodies(4, 1, 0, 0);
        bench.set(2, X, 8);
        bench.addSpring(1, 2, 1, 0, 0);
        bench.step(1);
        bench.due(0, X, 4);
        bench.due(1, X, 4);
        bench.due(2, X, 4);
    }

    private static void springPullsBothWays() {
        CHECK.sentence("A STEP: fx of i = fx + p * dx, ... fy of j = fy - p * dy");
        Bench bench = new Bench(CHECK);
        bench.setField(DT, 1);
        bench.set(7, X, 1.5);
        bench.set(7, Y, -2);
        bench.addSpring(3, 7, 0.5f, 1.25f, 0);
        bench.addSpring(3, 7, 0.5f, 2.5f, 0);
        bench.addSpring(7, 3, 0.5f, 3.75f, 0);
        bench.step(1);
        // d is 2.5: p is 0.25, 0 and -0.25, and the last pulls the other way: nothing is left.
        bench.due(3, U, 0.0);
        bench.due(7, V, 0.0);
        bench.lab.cut();
        bench.step(1);
        bench.due(3, U, 0.375);
        bench.due(3, V, -0.5);
        bench.due(7, U, -0.375);
        bench.due(7, V, 0.5);
    }

    private static void springDamps() {
        CHECK.sentence("A STEP: p = k * (d - l) / d + c * ((uj - ui) * dx + (vj - vi) * dy) / (d * d)");
        Bench bench = twoBodies(2, 0, 0, 0.5f);
        bench.set(0, U, 1);
        bench.set(1, U, 5);
        bench.step(1);
        // 0.5 * (4 * 2) / 4, 1, times dx.
        bench.due(0, U, 3);
        bench.due(1, U, 3);
        Bench tooLarge = twoBodies(0x1p511, 0, 0, MOST_FLOAT);
        tooLarge.set(1, U, 0x1p512);
        tooLarge.step(1);
        // 2^512 * 2^511 stays below 2^1024, c times it does not.
        tooLarge.due(0, U, INFINITE);
        tooLarge.due(1, U, -INFINITE);
        Bench notNumber = twoBodies(2, 0, FLOAT_INFINITE, 0);
        notNumber.step(1);
        notNumber.due(0, U, NONE);
    }

    private static void stepMoves() {
        CHECK.sentence("A STEP: u = u + fx / m * dt, x = x + u * dt: with the new u, from the left");
        Bench bench = new Bench(CHECK);
        bench.setField(GX, 3);
        bench.setField(DT, 0.5);
        bench.set(0, M, 0x1p-149);
        bench.step(1);
        bench.due(0, U, 1.5);
        bench.due(0, X, 0.75);
        moveFromTheLeft();
        massesAtTheEdge();
        dtAtTheEdge();
    }

    private static void moveFromTheLeft() {
        CHECK.sentence("formulas are reckoned by their brackets, * / % before + -, from the left: u + fx / m * dt");
        Bench bench = new Bench(CHECK);
        bench.setField(DRAG, -1);
        bench.setField(DT, 0x1p-149);
        for (int body = 0; body < 2; body++) {
            bench.set(body, M, 0x1p-149);
        }
        bench.set(0, U, 0x1p874);
        bench.set(1, U, 0x1p875);
        bench.step(1);
        // fx is u; by m it is 2^1023, and then too large, whatever dt is.
        bench.due(0, U, 0x1p875);
        bench.due(1, U, INFINITE);
    }

    private static void massesAtTheEdge() {
        CHECK.sentence("A STEP: fx / m, with an m that is 0, infinite or none");
        Bench bench = new Bench(CHECK);
        double[] masses = {Math.nextUp(0x1p-150), 0x1p-150, -0x1p-150, 0x1.fffffefffffffp127, 0x1.ffffffp127, NONE};
        double[] wants = {0.0, NONE, NONE, 0.0, NONE, NONE};
        for (int body = 0; body < masses.length; body++) {
            bench.set(body, M, masses[body]);
        }
        bench.step(1);
        for (int body = 0; body < masses.length; body++) {
            bench.due(body, U, wants[body]);
            bench.due(body, Y, wants[body]);
        }
        Bench pulled = new Bench(CHECK);
        pulled.setField(DRAG, -1);
        pulled.set(0, U, 1);
        pulled.set(0, M, 0.0);
        pulled.set(1, U, 1);
        pulled.set(1, M, -0.0);
        pulled.set(2, U, 1);
        pulled.set(2, M, LEAST_FLOAT);
        pulled.step(1);
        // fx is m * 0 + u, 1.
        pulled.due(0, X, INFINITE);
        pulled.due(1, X, -INFINITE);
        pulled.due(2, U, 0x1p146);
    }

    private static void dtAtTheEdge() {
        CHECK.sentence("A STEP: u * dt, with a dt that is 0, below 0, infinite or none");
        double[] times = {0.0, -0.0, -2, 0x1p-150, Math.nextUp(0x1p-150), INFINITE, NONE};
        double[] wants = {1, 1, -5, 1, 1, NONE, NONE};
        for (int n = 0; n < times.length; n++) {
            Bench bench = new Bench(CHECK);
            bench.setField(DT, times[n]);
            bench.set(0, X, 1);
            bench.set(0, U, 3);
            bench.step(1);
            bench.due(0, X, wants[n]);
        }
        Bench least = new Bench(CHECK);
        least.setField(DT, Math.nextUp(0x1p-150));
        least.set(0, U, 3);
        least.set(1, U, LEAST);
        least.step(1);
        least.due(0, X, 3 * 0x1p-149);
        least.due(1, X, 0.0);
    }

    private static void stepWalls() {
        wallAbove();
        wallBelow();
        wallInfinite();
        wallAtZero();
        wallBelowZero();
        wallThatIsNone();
        backAtTheEdge();
        wallsOfACorner();
    }

    // A body that does not move in a STEP but may stand behind the wall: where it and its speed are then.
    private static void wallDue(double wall, double back, double at, double speed, double wantAt, double wantSpeed) {
        Bench bench = new Bench(CHECK);
        bench.setField(DT, 0);
        bench.setField(WALL, wall);
        bench.setField(BACK, back);
        bench.set(0, X, at);
        bench.set(0, U, speed);
        bench.set(7, Y, at);
        bench.set(7, V, speed);
        // The other way must stay as it is.
        double inside = wall > 0.5 ? 0.5 : NONE;
        bench.set(0, Y, inside);
        bench.set(7, X, inside);
        bench.set(0, V, 3);
        bench.set(7, U, 3);
        bench.step(1);
        bench.due(0, X, wantAt);
        bench.due(0, U, wantSpeed);
        bench.due(7, Y, wantAt);
        bench.due(7, V, wantSpeed);
        bench.due(0, Y, inside);
        bench.due(7, X, inside);
        bench.due(0, V, 3);
        bench.due(7, U, 3);
    }

    private static void wallAbove() {
        CHECK.sentence("A STEP: if x > wall: x = wall - (x - wall) * back, u = -(u * back)");
        wallDue(2, 0.5, Math.nextDown(2.0), 3, Math.nextDown(2.0), 3);
        wallDue(2, 0.5, 2, 3, 2, 3);
        wallDue(2, 0.5, Math.nextUp(2.0), 3, 2 - 0x1p-52, -1.5);
        wallDue(2, 0.5, 6, -3, 0, 1.5);
        wallDue(2, 1, 20, 3, -16, -3);
        wallDue(2, 1, 3, 0.0, 1, -0.0);
        wallDue(2, -1, 3, 0.0, 3, 0.0);
    }

    private static void wallBelow() {
        CHECK.sentence("A STEP: else if x < -wall: x = -wall - (x + wall) * back, u = -(u * back)");
        wallDue(2, 0.5, -Math.nextDown(2.0), -3, -Math.nextDown(2.0), -3);
        wallDue(2, 0.5, -2, -3, -2, -3);
        wallDue(2, 0.5, -Math.nextUp(2.0), -3, -2 + 0x1p-52, 1.5);
        wallDue(2, 0.5, -6, 3, 0.0, -1.5);
        wallDue(2, 1, -20, -3, 16, 3);
        wallDue(2, 1, -3, 0.0, -1, -0.0);
    }

    private static void wallInfinite() {
        CHECK.sentence("A STEP: if x > wall, with a wall or an x that is infinite");
        wallDue(INFINITE, 0.5, MOST, 3, MOST, 3);
        wallDue(INFINITE, 0.5, INFINITE, 3, INFINITE, 3);
        wallDue(INFINITE, 0.5, -INFINITE, 3, -INFINITE, 3);
        wallDue(MOST, 0.5, MOST, 3, MOST, 3);
        wallDue(MOST, 0.5, INFINITE, 3, -INFINITE, -1.5);
        wallDue(MOST, 0.5, -MOST, 3, -MOST, 3);
        wallDue(MOST, 0.5, -INFINITE, 3, INFINITE, -1.5);
        wallDue(-INFINITE, 0.5, 1, 3, -INFINITE, -1.5);
        wallDue(-INFINITE, 0.5, -INFINITE, 3, INFINITE, -1.5);
    }

    private static void wallAtZero() {
        CHECK.sentence("A STEP: if x > wall; else if x < -wall: with a wall of 0");
        for (double wall : new double[] {0.0, -0.0}) {
            wallDue(wall, 1, LEAST, 3, -LEAST, -3);
            wallDue(wall, 1, -LEAST, 3, LEAST, -3);
        }
        wallDue(0.0, 1, 0.0, 3, 0.0, 3);
        wallDue(0.0, 0.5, LEAST, 3, 0.0, -1.5);
        wallDue(-0.0, 0.5, LEAST, 3, -0.0, -1.5);
        // (x + wall) * back is -0, and both -0 - (-0) and 0 - (-0) are 0.
        wallDue(0.0, 0.5, -LEAST, 3, 0.0, -1.5);
        wallDue(-0.0, 0.5, -LEAST, 3, 0.0, -1.5);
    }

    private static void wallBelowZero() {
        CHECK.sentence("A STEP: else if, with a wall below 0: one of both, once");
        wallDue(-1, 0.5, Math.nextUp(-1.0), 3, -1 - 0x1p-54, -1.5);
        wallDue(-1, 0.5, 0.0, 3, -1.5, -1.5);
        wallDue(-1, 0.5, -1, 3, 2, -1.5);
        wallDue(-1, 0.5, -2, 3, 2.5, -1.5);
        wallDue(-1, 0.5, 1, 3, -2, -1.5);
    }

    private static void wallThatIsNone() {
        CHECK.sentence("A STEP: if x > wall is false with one that is none");
        wallDue(NONE, 0.5, 5, 3, 5, 3);
        wallDue(NONE, 0.5, -5, 3, -5, 3);
        wallDue(2, 0.5, NONE, 3, NONE, 3);
    }

    private static void backAtTheEdge() {
        CHECK.sentence("A STEP: (x - wall) * back, -(u * back), with a back that is 0, infinite or none");
        wallDue(2, 0.0, 5, 3, 2, -0.0);
        wallDue(2, 0.0, -5, 3, -2, -0.0);
        wallDue(2, -1, 5, 3, 5, 3);
        wallDue(2, INFINITE, 5, 3, -INFINITE, -INFINITE);
        wallDue(2, INFINITE, 5, 0.0, -INFINITE, NONE);
        wallDue(2, NONE, 5, 3, NONE, NONE);
        wallDue(2, NONE, 1, 3, 1, 3);
        wallDue(2, 0x1p-150, 5, 3, 2, -0.0);
        wallDue(2, Math.nextUp(0x1p-150), 5, 3, 2, -3 * 0x1p-149);
    }

    private static void wallsOfACorner() {
        CHECK.sentence("A STEP: likewise y, v: a body behind both walls of a corner is thrown back by both");
        for (int signOfX = -1; signOfX <= 1; signOfX += 2) {
            for (int signOfY = -1; signOfY <= 1; signOfY += 2) {
                Bench bench = new Bench(CHECK);
                bench.setField(DT, 0.5);
                bench.setField(WALL, 2);
                bench.setField(BACK, 0.25);
                bench.set(4, X, signOfX * 2);
                bench.set(4, Y, signOfY * 1.5);
                bench.set(4, U, signOfX * 4);
                bench.set(4, V, signOfY * 6);
                bench.step(1);
                bench.due(4, X, signOfX * 1.5);
                bench.due(4, Y, signOfY * 1.375);
                bench.due(4, U, signOfX * -1.0);
                bench.due(4, V, signOfY * -1.5);
            }
        }
    }

    private static void stepCollisions() {
        collidesNearerThanTheRadii();
        collidesNotInOnePlace();
        collidesOnlyWhenNearing();
        collidesTooFast();
        collidesWithRadiiOfFloats();
        collidesWithSquaresOfFloats();
        collidesWithOddRadii();
        collidesWithMassesOfFloats();
        collidesPairAfterPair();
        collidesAfterAllMoved();
        collidesAfterAWall();
        collidesAslant();
    }

    // Two bodies of mass 1 that stand dx apart, the first with a speed: what speeds they have after a STEP.
    private static void collisionDue(double r0, double r1, double dx, double speed, double want0, double want1) {
        for (int way = X; way <= Y; way++) {
            Bench bench = new Bench(CHECK);
            bench.setField(DT, 0);
            bench.set(2, R, r0);
            bench.set(5, R, r1);
            bench.set(5, way, dx);
            bench.set(2, way + 2, speed);
            // The others stand far away, since an infinite radius reaches far.
            for (int other : new int[] {0, 1, 3, 4, 6, 7}) {
                bench.set(other, way, NONE);
            }
            bench.step(1);
            bench.due(2, way + 2, want0);
            bench.due(5, way + 2, want1);
            bench.due(2, 5 - way - 2, 0.0);
        }
    }

    private static void collidesNearerThanTheRadii() {
        CHECK.sentence("A STEP: if q < (as a double) s * s (of floats)");
        collisionDue(0.5, 0.5, 0.5, 4, 0, 4);
        collisionDue(0.5, 0.5, -0.5, -4, 0, -4);
        collisionDue(1, 1, Math.nextUp(2.0), 4, 4, 0);
        collisionDue(1, 1, 2, 4, 4, 0);
        // Just inside q is 4 - 2^-50, and w a little above 2.
        double near = Math.nextDown(2.0);
        double w = 4 * near / (near * near);
        collisionDue(1, 1, near, 4, 4 - w * near, w * near);
        collisionDue(0, 0, 1, 4, 4, 0);
    }

    private static void collidesNotInOnePlace() {
        CHECK.sentence("A STEP: and q > 0");
        collisionDue(1, 1, 0.0, 4, 4, 0);
        collisionDue(1, 1, 0x1p-537, 0x1p-500, 0.0, 0x1p-500);
        collisionDue(1, 1, 0x1p-538, 0x1p-500, 0x1p-500, 0.0);
    }

    private static void collidesOnlyWhenNearing() {
        CHECK.sentence("A STEP: if w > 0");
        collisionDue(1, 1, 0.5, -4, -4, 0);
        collisionDue(1, 1, 0.5, 0.0, 0.0, 0.0);
        collisionDue(1, 1, 0.5, LEAST, LEAST, 0.0);
        collisionDue(1, 1, 1, LEAST, 0.0, LEAST);
        // 0.75 of the least is the least, w and t twice that; t * 0.75 is 1.5 times, rounded to twice the least.
        collisionDue(1, 1, 0.75, LEAST, -LEAST, 2 * LEAST);
        // drag * u is none for an infinite u, so it is none before bodies meet.
        collisionDue(1, 1, 0.5, INFINITE, NONE, 0.0);
        collisionDue(1, 1, 0.5, NONE, NONE, 0.0);
        Bench aside = new Bench(CHECK);
        aside.setField(DT, 0);
        aside.set(0, R, 1);
        aside.set(1, X, 0.5);
        aside.set(0, V, 7);
        aside.set(1, V, -7);
        aside.step(1);
        aside.due(0, V, 7);
        aside.due(1, V, -7);
        aside.due(1, U, 0.0);
    }

    private static void collidesTooFast() {
        CHECK.sentence("A STEP: t = 2.0 * w / (mi + mj), from the left, too large");
        collisionDue(1, 1, 0.5, 0x1p1021, 0, 0x1p1021);
        Bench bench = new Bench(CHECK);
        bench.setField(DT, 0);
        bench.set(0, R, 1);
        bench.set(0, U, 0x1p1022);
        bench.set(1, X, 0.5);
        for (int other = 2; other < Bench.BODIES; other++) {
            bench.set(other, X, 9);
        }
        bench.step(1);
        // w is 2^1023, so 2.0 * w is infinite, and t * dy, with a dy of 0, is none.
        bench.due(0, U, -INFINITE);
        bench.due(1, U, INFINITE);
        bench.due(0, V, NONE);
        bench.due(1, V, NONE);
    }

    private static void collidesWithRadiiOfFloats() {
        CHECK.sentence("A STEP: s = ri + rj, of floats");
        collisionDue(1, 0x1p-24, 1, 4, 4, 0);
        collisionDue(1, Math.nextUp(0x1p-24f), 1, 4, 0, 4);
        collisionDue(0x1p-24, 1, 1, 4, 4, 0);
        // The greatest floats together are infinite, so is the square, and all that is finite is less.
        collisionDue(MOST_FLOAT, MOST_FLOAT, 0x1p500, 4, 0, 4);
        collisionDue(MOST_FLOAT, -MOST_FLOAT, 0x1p-500, 4, 4, 0);
    }

    private static void collidesWithSquaresOfFloats() {
        CHECK.sentence("A STEP: (as a double) s * s (of floats), too large or below all that is normal");
        collisionDue(0, 0x1p64, 0x1p65, 4, 0, 4);
        collisionDue(0, Math.nextDown(0x1p64f), 0x1p65, 4, 4, 0);
        collisionDue(0x1p-75, 0, 0x1p-76, 4, 4, 0);
        collisionDue(Math.nextUp(0x1p-75f), 0, 0x1p-76, 4, 0, 4);
        // (1 + 2^-23)^2 is 1 + 2^-22 as a float, a little less than it is exactly.
        double edge = 1 + 0x1p-23;
        collisionDue(edge, 0, edge, 4, 4, 0);
        double inside = Math.nextDown(edge);
        double q = inside * inside;
        CHECK.isTrue("the square just inside is not inside", q > 1 + 0x1p-22);
        collisionDue(edge, 0, inside, 4, 4, 0);
    }

    private static void collidesWithOddRadii() {
        CHECK.sentence("A STEP: q < s * s, with radii below 0, infinite or none");
        collisionDue(-1, 0, 0.5, 4, 0, 4);
        collisionDue(-1, 1, 0.5, 4, 4, 0);
        collisionDue(INFINITE, 0, 0x1p511, 4, 0, 4);
        collisionDue(INFINITE, 0, 0x1p512, 4, 4, 0);
        collisionDue(INFINITE, -INFINITE, 0.5, 4, 4, 0);
        collisionDue(NONE, 1, 0.5, 4, 4, 0);
        collisionDue(1, 0x1p-150, 1, 4, 4, 0);
    }

    private static void collidesWithMassesOfFloats() {
        CHECK.sentence("A STEP: t = 2.0 * w / (mi + mj) (mi + mj of floats)");
        massesDue(1, 3, -2, 2);
        massesDue(3, 1, 2, 6);
        massesDue(1, -1, INFINITE, INFINITE);
        massesDue(-1, 1, -INFINITE, -INFINITE);
        massesDue(MOST_FLOAT, MOST_FLOAT, 4, 0.0);
        massesDue(MOST_FLOAT, 0x1p103, 4, 0.0);
        // The next float below makes a sum that is finite: t is 16 / m, and t * m / 2 twice the speed.
        massesDue(MOST_FLOAT, Math.nextDown(0x1p103f), 4 - 16.0 / MOST_FLOAT * Math.nextDown(0x1p103f) * 0.5, 8);
        // 1 + 2^-24 is 1 as a float.
        massesDue(1, 0x1p-24, 4 - 0x1p-21, 8);
    }

    private static void massesDue(double m0, double m1, double want0, double want1) {
        Bench bench = new Bench(CHECK);
        bench.setField(DT, 0);
        bench.set(0, R, 1);
        bench.set(0, M, m0);
        bench.set(1, M, m1);
        bench.set(1, X, 0.5);
        bench.set(0, U, 4);
        for (int other = 2; other < Bench.BODIES; other++) {
            bench.set(other, X, 9);
        }
        bench.step(1);
        bench.due(0, U, want0);
        bench.due(1, U, want1);
    }

    private static Bench rowOfThree() {
        Bench bench = new Bench(CHECK);
        for (int body = 0; body < Bench.BODIES; body++) {
            bench.set(body, X, body < 3 ? body * 0.5 : 90 + body);
            bench.set(body, R, 0.3);
        }
        return bench;
    }

    private static void collidesPairAfterPair() {
        CHECK.sentence("A STEP: Then for each i, for each j above it");
        Bench upward = rowOfThree();
        upward.setField(DT, 0);
        upward.set(0, U, 4);
        upward.step(1);
        upward.due(0, U, 0);
        upward.due(1, U, 0);
        upward.due(2, U, 4);
        Bench downward = rowOfThree();
        downward.setField(DT, 0);
        downward.set(2, U, -4);
        downward.step(1);
        downward.due(0, U, 0);
        downward.due(1, U, -4);
        downward.due(2, U, 0);
        Bench last = new Bench(CHECK);
        last.setField(DT, 0);
        last.set(7, X, 0.5);
        last.set(7, R, 1);
        last.set(6, U, 4);
        for (int body = 0; body < 6; body++) {
            last.set(body, X, 50);
        }
        last.step(1);
        last.due(6, U, 0);
        last.due(7, U, 4);
    }

    private static void collidesAfterAllMoved() {
        CHECK.sentence("A STEP: Then for each i: after all bodies moved");
        Bench bench = rowOfThree();
        bench.setField(DT, 1);
        bench.set(1, X, 4);
        bench.set(2, X, 8);
        bench.set(0, U, 3.5);
        bench.step(1);
        bench.due(0, X, 3.5);
        bench.due(0, U, 0);
        bench.due(1, X, 4);
        bench.due(1, U, 3.5);
    }

    private static void collidesAfterAWall() {
        CHECK.sentence("A STEP: Then for each i: after the walls threw bodies back");
        Bench bench = rowOfThree();
        bench.setField(DT, 1);
        bench.setField(WALL, 4);
        bench.setField(BACK, 1);
        bench.set(0, X, 3);
        bench.set(0, U, 2);
        bench.set(1, X, 2.5);
        bench.set(2, X, -2);
        for (int other = 3; other < Bench.BODIES; other++) {
            bench.set(other, X, NONE);
        }
        bench.step(1);
        // At 5, and so thrown back to 3 with -2, it meets the one at 2.5 and stops.
        bench.due(0, X, 3);
        bench.due(0, U, 0);
        bench.due(1, X, 2.5);
        bench.due(1, U, -2);
        bench.due(2, U, 0);
    }

    private static void collidesAslant() {
        CHECK.sentence("A STEP: ui = ui - t * mj * dx, vi = vi - t * mj * dy, uj = uj + t * mi * dx, vj = vj + t * mi * dy");
        Bench bench = new Bench(CHECK);
        bench.setField(DT, 0);
        double[][] two = {{0, 0, 2, 11, 1, 3}, {3, 4, 4, -3, 3, 2.5}};
        for (int what = X; what <= R; what++) {
            bench.set(1, what, two[0][what]);
            bench.set(6, what, two[1][what]);
        }
        for (int other : new int[] {0, 2, 3, 4, 5, 7}) {
            bench.set(other, Y, 90);
        }
        bench.step(1);
        // w is ((2 - 4) * 3 + (11 + 3) * 4) / 25, 2, and t is 2.0 * 2 / 4, 1.
        bench.due(1, U, -7);
        bench.due(1, V, -1);
        bench.due(6, U, 7);
        bench.due(6, V, 1);
        bench.due(1, X, 0);
        bench.due(6, Y, 4);
    }

    private static void promise14() {
        energyOfNothing();
        energyFromTheLeft();
        energyHalfIsADouble();
        energyOfShortAndLongSprings();
        energyTooLarge();
    }

    private static void energyOfNothing() {
        CHECK.sentence("energy: e is 0.0");
        Bench bench = new Bench(CHECK);
        CHECK.due("energy()", bench.lab.energy(), 0.0);
        for (int body = 0; body < Bench.BODIES; body++) {
            bench.set(body, M, -1);
        }
        CHECK.due("energy of -0 on -0", bench.lab.energy(), 0.0);
        bench.set(7, U, 2);
        CHECK.due("energy of the last body", bench.lab.energy(), -2.0);
    }

    private static void energyFromTheLeft() {
        CHECK.sentence("energy: e = e + 0.5 * m * (u * u + v * v) - m * (gx * x + gy * y), from the left");
        Bench bench = new Bench(CHECK);
        bench.setField(GX, 1);
        bench.setField(GY, 1);
        for (int body = 0; body < 2; body++) {
            bench.set(body, M, 2);
            bench.set(body, U, 0x1p511);
            bench.set(body, V, 0x1p511);
        }
        // 2^1023 from the first; with that of the second it is too large, before anything goes off.
        bench.set(1, X, 0x1p1021);
        bench.set(1, Y, 0x1p1021);
        CHECK.due("energy()", bench.lab.energy(), INFINITE);
        bench.set(0, X, 0x1p1020);
        CHECK.due("energy() with less of the first", bench.lab.energy(), 0x1.8p1022);
        bench.set(0, X, 0);
        bench.set(1, U, 0);
        CHECK.due("energy() with less of the second", bench.lab.energy(), 0x1p1022);
    }

    private static void energyHalfIsADouble() {
        CHECK.sentence("energy: 0.5 * m (0.5 a double)");
        Bench bench = new Bench(CHECK);
        bench.set(0, M, Math.nextUp(0x1p-150));
        bench.set(0, U, 0x1p100);
        CHECK.due("energy of the least mass", bench.lab.energy(), 0x1p50);
        bench.set(0, M, 0x1p-150);
        CHECK.due("energy of no mass", bench.lab.energy(), 0.0);
        Bench spring = new Bench(CHECK);
        spring.set(1, X, 0x1p100);
        spring.addSpring(0, 1, LEAST_FLOAT, 0, 0);
        CHECK.due("energy of the weakest spring", spring.lab.energy(), 0x1p50);
    }

    private static void energyOfShortAndLongSprings() {
        CHECK.sentence("energy: for each spring, with d as in a STEP: e = e + 0.5 * k * (d - l) * (d - l)");
        Bench bench = twoBodies(0, 2, 3, 0);
        CHECK.due("energy of a d of 0", bench.lab.energy(), 9.0);
        bench.set(1, X, 3);
        CHECK.due("energy of a spring at rest", bench.lab.energy(), 0.0);
        bench.set(1, Y, -4);
        CHECK.due("energy of a long one", bench.lab.energy(), 4.0);
        bench.set(1, Y, NONE);
        CHECK.due("energy of a d that is none", bench.lab.energy(), NONE);
        Bench root = twoBodies(1, 2, 0, 0);
        root.set(1, Y, 1);
        double d = 0x1.6a09e667f3bccp0;
        CHECK.due("energy by ROOT of 2", root.lab.energy(), d * d);
        Bench least = twoBodies(0x1p-538, 2, 0, 0);
        CHECK.due("energy of squares that are 0", least.lab.energy(), 0.0);
        least.set(1, X, 0x1p-537);
        double rootOfLeast = 0x1.800000000038fp-517;
        CHECK.due("energy by ROOT of the least", least.lab.energy(), rootOfLeast * rootOfLeast);
    }

    private static void energyTooLarge() {
        CHECK.sentence("energy: infinite, or no number");
        Bench bench = twoBodies(Math.nextDown(0x1p512), 2, 0, 0);
        CHECK.due("energy of a long spring", bench.lab.energy(), Math.nextDown(MOST));
        // Now dx * dx + dy * dy is the greatest double: its ROOT is 2^512, whose square is too large.
        bench.set(1, Y, 0x1.8p485);
        CHECK.due("energy of a longer one", bench.lab.energy(), INFINITE);
        bench.lab.cut();
        bench.addSpring(0, 1, 0x1p-10f, 0, 0);
        CHECK.due("energy of a weak one", bench.lab.energy(), 0x1p1013);
        bench.set(1, X, 0x1p512);
        CHECK.due("energy of a d that is infinite", bench.lab.energy(), INFINITE);
        bench.lab.cut();
        bench.set(0, U, 0x1p512);
        CHECK.due("energy of a fast body", bench.lab.energy(), INFINITE);
        bench.set(1, M, -1);
        bench.set(1, U, 0x1p512);
        CHECK.due("energy of infinite and -infinite", bench.lab.energy(), NONE);
        bench.set(0, M, 0);
        CHECK.due("energy of 0 * infinite", bench.lab.energy(), NONE);
    }

    private static void promise15() {
        meanRefuses();
        meanOfOneBody();
        meanOfEqualNumbers();
        meanTooLarge();
    }

    private static void meanRefuses() {
        CHECK.sentence("mean: 1 for other numbers");
        Bench bench = new Bench(CHECK);
        bench.fill();
        long[] before = bench.state();
        for (int wrong : Bench.outside(Bench.BODY_NUMBERS)) {
            CHECK.due("mean(" + wrong + ", 0)", bench.lab.mean(wrong, 0), 1);
            CHECK.due("mean(" + wrong + ", 1)", bench.lab.mean(wrong, 1), 1);
        }
        for (int wrong : Bench.outside(2)) {
            CHECK.due("mean(0, " + wrong + ")", bench.lab.mean(0, wrong), 1);
            CHECK.due("mean(5, " + wrong + ")", bench.lab.mean(5, wrong), 1);
        }
        for (int number = X; number <= R; number++) {
            CHECK.isTrue("mean(" + number + ", 0) is no 1", bench.lab.mean(number, 0) != 1);
            CHECK.due("mean(" + number + ", 1)", bench.lab.mean(number, 1), Reference.squares(told(bench, number)));
            CHECK.due("mean(" + number + ", 0)", bench.lab.mean(number, 0), Reference.mean(told(bench, number)));
        }
        bench.unchanged("mean", before);
    }

    private static double[] told(Bench bench, int number) {
        double[] all = new double[Bench.BODIES];
        for (int body = 0; body < all.length; body++) {
            all[body] = Double.longBitsToDouble(bench.lab.tell(body, number));
        }
        return all;
    }

    private static void meanOfOneBody() {
        CHECK.sentence("mean: over all bodies: for body n, from 0: g = it - t, t = t + g / (n + 1.0)");
        for (int body = 0; body < Bench.BODIES; body++) {
            Bench bench = new Bench(CHECK);
            bench.set(body, V, 3 * LEAST);
            double[] all = new double[Bench.BODIES];
            all[body] = 3 * LEAST;
            CHECK.due("mean of a little of " + body, bench.lab.mean(V, 0), Reference.mean(all));
            CHECK.due("squares of a little of " + body, bench.lab.mean(V, 1), 0.0);
        }
        Bench bench = new Bench(CHECK);
        bench.set(7, X, 8);
        CHECK.due("mean with the last", bench.lab.mean(X, 0), 1.0);
        CHECK.due("squares with the last", bench.lab.mean(X, 1), 56.0);
    }

    private static void meanOfEqualNumbers() {
        CHECK.sentence("mean: t and q are 0.0");
        for (double d : new double[] {0.0, -0.0, 0.1, LEAST, MOST, -MOST}) {
            Bench bench = new Bench(CHECK);
            for (int body = 0; body < Bench.BODIES; body++) {
                bench.set(body, Y, d);
            }
            CHECK.due("mean of eight times " + d, bench.lab.mean(Y, 0), d == 0 ? 0.0 : d);
            CHECK.due("squares of eight times " + d, bench.lab.mean(Y, 1), 0.0);
        }
        Bench masses = new Bench(CHECK);
        CHECK.due("mean of m at first", masses.lab.mean(M, 0), 1.0);
        CHECK.due("mean of r at first", masses.lab.mean(R, 0), 0.0);
    }

    private static void meanTooLarge() {
        CHECK.sentence("mean: g = it - t, too large, infinite or no number");
        Bench bench = new Bench(CHECK);
        double[] all = {0x1p1023, -0x1.ffffffffffffep1022, 0, 0, 0, 0, 0, 0};
        bench.set(0, U, all[0]);
        bench.set(1, U, all[1]);
        // g is the greatest double below 0.
        CHECK.due("mean of far numbers", bench.lab.mean(U, 0), Reference.mean(all));
        CHECK.due("squares of far numbers", bench.lab.mean(U, 1), INFINITE);
        bench.set(1, U, Math.nextDown(all[1]));
        CHECK.due("mean of farther numbers", bench.lab.mean(U, 0), NONE);
        CHECK.due("squares of farther numbers", bench.lab.mean(U, 1), NONE);
        bench.set(0, U, 0);
        bench.set(1, U, 0);
        bench.set(6, U, MOST);
        bench.set(7, U, -MOST);
        CHECK.due("mean of the farthest numbers", bench.lab.mean(U, 0), -INFINITE);
        bench.set(7, U, INFINITE);
        CHECK.due("mean with an infinite one at the end", bench.lab.mean(U, 0), INFINITE);
        CHECK.due("its squares", bench.lab.mean(U, 1), NONE);
        bench.set(7, U, 0);
        bench.set(6, U, INFINITE);
        CHECK.due("mean with an infinite one before the end", bench.lab.mean(U, 0), NONE);
        bench.set(6, U, NONE);
        CHECK.due("mean with one that is none", bench.lab.mean(U, 0), NONE);
        CHECK.due("mean of another number", bench.lab.mean(V, 0), 0.0);
    }
}
