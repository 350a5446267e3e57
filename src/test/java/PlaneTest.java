/** Promises 1 to 8, 14 and 15: the bodies, the field, the springs, and what is told of them. */
public final class PlaneTest {
    private static final int X = 0, Y = 1, U = 2, V = 3, M = 4, R = 5;
    private static final int GX = 0, GY = 1, DRAG = 2, DT = 3, WALL = 4, BACK = 5;
    private static final int[] OUTSIDE = {Integer.MIN_VALUE, -1, 8, Integer.MAX_VALUE};
    private static final double INFINITE = Double.POSITIVE_INFINITY;

    private static final Check CHECK = new Check();

    public static void main(String[] args) {
        promise1NewObject();
        promises2And7Bodies();
        promises2And7WrongNumbers();
        promises3And8Field();
        promise4Spring();
        promise4SpringNumbers();
        promise5Cut();
        promise6Numbers();
        promise6FieldAndDrag();
        promise6Springs();
        promise6SpringsWithoutLength();
        promise6Walls();
        promise6Collisions();
        promise6FloatsInCollisions();
        promise6NoMass();
        promise14Energy();
        promise15Mean();
        CHECK.end();
    }

    private static void set(MotionLab lab, int body, int what, double d) {
        CHECK.due("body(" + body + ", " + what + ", " + d + ")", lab.body(body, what, Check.bits(d)), 0);
    }

    private static void setField(MotionLab lab, int what, double d) {
        CHECK.due("field(" + what + ", " + d + ")", lab.field(what, Check.bits(d)), 0);
    }

    private static void due(MotionLab lab, int body, int what, double want) {
        CHECK.due("tell(" + body + ", " + what + ")", lab.tell(body, what), want);
    }

    private static void addSpring(MotionLab lab, int i, int j, float k, float l, float c) {
        lab.spring(i, j, Check.bits(k), Check.bits(l), Check.bits(c));
    }

    private static void promise1NewObject() {
        MotionLab lab = new MotionLab();
        for (int body = 0; body < 8; body++) {
            for (int what = X; what <= R; what++) {
                due(lab, body, what, what == M ? 1.0 : 0.0);
            }
        }
        double[] field = {0, 0, 0, 0.125, INFINITE, 1};
        for (int what = GX; what <= BACK; what++) {
            CHECK.due("about(" + what + ")", lab.about(what), field[what]);
        }
        CHECK.due("cut()", lab.cut(), MotionLab.NONE);
        CHECK.due("energy()", lab.energy(), 0.0);
        set(lab, 0, X, 5);
        due(new MotionLab(), 0, X, 0);
    }

    private static void promises2And7Bodies() {
        MotionLab lab = new MotionLab();
        for (int body = 0; body < 8; body++) {
            for (int what = X; what <= R; what++) {
                set(lab, body, what, body * 0.1 + what + 1.1);
            }
        }
        for (int body = 0; body < 8; body++) {
            for (int what = X; what <= R; what++) {
                double d = body * 0.1 + what + 1.1;
                due(lab, body, what, what >= M ? (float) d : d);
            }
        }
        for (double d : new double[] {-0.0, INFINITE, -INFINITE, Double.MIN_VALUE, 1e300, -1e-320}) {
            for (int what = X; what <= R; what++) {
                set(lab, 7, what, d);
                due(lab, 7, what, what >= M ? (float) d : d);
            }
        }
        for (int what = X; what <= R; what++) {
            lab.body(3, what, 0xfff0000000000001L);
            due(lab, 3, what, Double.NaN);
        }
    }

    private static void promises2And7WrongNumbers() {
        MotionLab lab = new MotionLab();
        for (int wrong : OUTSIDE) {
            CHECK.due("body of body " + wrong, lab.body(wrong, X, 5), MotionLab.REFUSED);
            CHECK.due("body of what " + wrong, lab.body(0, wrong, 5), MotionLab.REFUSED);
            CHECK.due("tell of body " + wrong, lab.tell(wrong, X), 1);
            CHECK.due("tell of what " + wrong, lab.tell(0, wrong), 1);
        }
        CHECK.due("body of what 6", lab.body(0, 6, 5), MotionLab.REFUSED);
        CHECK.due("tell of what 6", lab.tell(0, 6), 1);
        for (int body = 0; body < 8; body++) {
            due(lab, body, X, 0);
        }
    }

    private static void promises3And8Field() {
        MotionLab lab = new MotionLab();
        for (int what = GX; what <= BACK; what++) {
            setField(lab, what, what + 0.1);
        }
        for (int what = GX; what <= BACK; what++) {
            double want = what == DT || what == BACK ? (float) (what + 0.1) : what + 0.1;
            CHECK.due("about(" + what + ")", lab.about(what), want);
        }
        for (int what = GX; what <= BACK; what++) {
            setField(lab, what, 1e300);
            CHECK.due("about(" + what + ")", lab.about(what), what == DT || what == BACK ? INFINITE : 1e300);
            lab.field(what, -1);
            CHECK.due("about(" + what + ")", lab.about(what), Double.NaN);
        }
        for (int wrong : new int[] {Integer.MIN_VALUE, -1, 6, Integer.MAX_VALUE}) {
            CHECK.due("field of " + wrong, lab.field(wrong, 0), MotionLab.REFUSED);
            CHECK.due("about of " + wrong, lab.about(wrong), 1);
        }
    }

    private static void promise4Spring() {
        MotionLab lab = new MotionLab();
        for (int n = 0; n < 10; n++) {
            CHECK.due("spring " + n, lab.spring(n % 8, (n + 1) % 8, 0, 0, 0), n);
        }
        CHECK.due("an eleventh spring", lab.spring(0, 1, 0, 0, 0), MotionLab.FULL);
        for (int wrong : OUTSIDE) {
            CHECK.due("spring from " + wrong, lab.spring(wrong, 1, 0, 0, 0), MotionLab.REFUSED);
            CHECK.due("spring to " + wrong, lab.spring(0, wrong, 0, 0, 0), MotionLab.REFUSED);
        }
        CHECK.due("spring of one body", lab.spring(3, 3, 0, 0, 0), MotionLab.REFUSED);
        CHECK.due("cut()", lab.cut(), 9);
        CHECK.due("spring in its place", lab.spring(7, 0, 0, 0, 0), 9);
    }

    private static void promise4SpringNumbers() {
        MotionLab lab = new MotionLab();
        set(lab, 0, X, 3);
        lab.spring(0, 1, 1, 0, 0);
        CHECK.due("energy of the least k", lab.energy(), 0.5 * Float.MIN_VALUE * 3.0 * 3.0);
        lab.cut();
        lab.spring(0, 1, 0xff800000, 0, 0);
        CHECK.due("energy of an infinite k", lab.energy(), -INFINITE);
        lab.cut();
        lab.spring(0, 1, 0x7f800001, 0, 0);
        CHECK.due("energy of a k that is none", lab.energy(), Double.NaN);
        lab.cut();
        addSpring(lab, 0, 1, 0.1f, 0.2f, 9f);
        CHECK.due("energy", lab.energy(), 0.5 * 0.1f * (3.0 - 0.2f) * (3.0 - 0.2f));
    }

    private static void promise5Cut() {
        MotionLab lab = new MotionLab();
        CHECK.due("cut()", lab.cut(), MotionLab.NONE);
        set(lab, 0, X, 1);
        addSpring(lab, 0, 1, 2f, 0f, 0f);
        addSpring(lab, 0, 1, 4f, 0f, 0f);
        CHECK.due("energy of both", lab.energy(), 3.0);
        CHECK.due("cut()", lab.cut(), 1);
        CHECK.due("energy of the first", lab.energy(), 1.0);
        CHECK.due("cut()", lab.cut(), 0);
        CHECK.due("energy of none", lab.energy(), 0.0);
        CHECK.due("cut()", lab.cut(), MotionLab.NONE);
    }

    private static void promise6Numbers() {
        MotionLab lab = new MotionLab();
        set(lab, 0, U, 1);
        for (int wrong : new int[] {Integer.MIN_VALUE, -1, 21, Integer.MAX_VALUE}) {
            CHECK.due("step(" + wrong + ")", lab.step(wrong), MotionLab.REFUSED);
        }
        CHECK.due("step(0)", lab.step(0), 0);
        due(lab, 0, X, 0);
        CHECK.due("step(1)", lab.step(1), 0);
        due(lab, 0, X, 0.125);
        CHECK.due("step(20)", lab.step(20), 0);
        due(lab, 0, X, 21 * 0.125);
    }

    private static void promise6FieldAndDrag() {
        MotionLab lab = new MotionLab();
        float m = (float) 1.7;
        float dt = (float) 0.01;
        set(lab, 7, M, 1.7);
        set(lab, 7, U, 0.3);
        set(lab, 7, V, -0.7);
        setField(lab, GX, 0.9);
        setField(lab, GY, -9.81);
        setField(lab, DRAG, 0.2);
        setField(lab, DT, 0.01);
        lab.step(1);
        double u = 0.3 + (m * 0.9 - 0.2 * 0.3) / m * dt;
        double v = -0.7 + (m * -9.81 - 0.2 * -0.7) / m * dt;
        due(lab, 7, U, u);
        due(lab, 7, V, v);
        due(lab, 7, X, 0.0 + u * dt);
        due(lab, 7, Y, 0.0 + v * dt);
        due(lab, 0, Y, 0.0 + (0.0 + (1f * -9.81 - 0.2 * 0.0) / 1f * dt) * dt);
    }

    private static void promise6Springs() {
        MotionLab lab = new MotionLab();
        set(lab, 2, X, 3);
        set(lab, 2, Y, 4);
        set(lab, 2, U, 0.6);
        set(lab, 2, M, 3);
        addSpring(lab, 5, 2, 0.7f, 1.3f, 0.1f);
        lab.step(1);
        double d = 5.0;
        double p = 0.7f * (d - 1.3f) / d + 0.1f * ((0.6 - 0.0) * 3.0 + (0.0 - 0.0) * 4.0) / (d * d);
        due(lab, 5, U, 0.0 + (0.0 + p * 3.0) / 1f * 0.125f);
        due(lab, 5, V, 0.0 + (0.0 + p * 4.0) / 1f * 0.125f);
        due(lab, 2, U, 0.6 + (0.0 - p * 3.0) / 3f * 0.125f);
        due(lab, 2, V, 0.0 + (0.0 - p * 4.0) / 3f * 0.125f);
        due(lab, 2, X, 3.0 + (0.6 + (0.0 - p * 3.0) / 3f * 0.125f) * 0.125f);
    }

    private static void promise6SpringsWithoutLength() {
        MotionLab lab = new MotionLab();
        addSpring(lab, 0, 1, 1f, 1f, 1f);
        set(lab, 2, X, Double.NaN);
        addSpring(lab, 2, 3, 1f, 1f, 1f);
        set(lab, 4, X, INFINITE);
        addSpring(lab, 4, 5, 1f, 1f, 1f);
        lab.step(1);
        due(lab, 0, U, 0);
        due(lab, 1, X, 0);
        due(lab, 3, X, 0);
        due(lab, 5, U, Double.NaN);
    }

    private static void promise6Walls() {
        for (int side = 1; side >= -1; side -= 2) {
            MotionLab lab = new MotionLab();
            setField(lab, WALL, 1);
            setField(lab, BACK, 0.3);
            setField(lab, DT, 1);
            set(lab, 0, U, side * 1.7);
            set(lab, 1, V, side * 1.7);
            set(lab, 2, X, side);
            set(lab, 3, U, side * 0.5);
            lab.step(1);
            double at = side - (side * 1.7 - side) * 0.3f;
            due(lab, 0, X, at);
            due(lab, 0, U, -(side * 1.7 * 0.3f));
            due(lab, 0, Y, 0);
            due(lab, 1, Y, at);
            due(lab, 1, V, -(side * 1.7 * 0.3f));
            due(lab, 2, X, side);
            due(lab, 2, U, 0);
            due(lab, 3, U, side * 0.5);
        }
        MotionLab lab = new MotionLab();
        setField(lab, WALL, -1);
        lab.step(1);
        due(lab, 0, X, -2);
        due(lab, 0, U, -0.0);
        setField(lab, WALL, Double.NaN);
        lab.step(1);
        due(lab, 0, X, -2);
    }

    private static void promise6Collisions() {
        MotionLab lab = new MotionLab();
        setField(lab, DT, 0);
        double[] places = {0, 0.5, 4, 4.5, 8, 8};
        double[] speeds = {1, -1, -1, 1, 1, -1};
        for (int body = 0; body < places.length; body++) {
            set(lab, body, X, places[body]);
            set(lab, body, U, speeds[body]);
            set(lab, body, R, 0.5);
            set(lab, body, M, 1 + body % 2 * 2);
        }
        lab.step(1);
        due(lab, 0, U, -2);
        due(lab, 1, U, 0);
        due(lab, 2, U, -1);
        due(lab, 3, U, 1);
        due(lab, 4, U, 1);
        due(lab, 5, U, -1);
        MotionLab touching = new MotionLab();
        setField(touching, DT, 0);
        set(touching, 1, Y, 1);
        set(touching, 0, V, 1);
        set(touching, 0, R, 0.5);
        set(touching, 1, R, 0.5);
        touching.step(1);
        due(touching, 0, V, 1);
        set(touching, 1, Y, Math.nextDown(1.0));
        touching.step(1);
        due(touching, 0, V, 1 - 2.0 * (Math.nextDown(1.0) / (Math.nextDown(1.0) * Math.nextDown(1.0))) / 2f * 1f * Math.nextDown(1.0));
    }

    private static void promise6FloatsInCollisions() {
        MotionLab lab = new MotionLab();
        setField(lab, DT, 0);
        float small = 0x1p-24f;
        double dx = Math.nextDown(1.0);
        set(lab, 1, X, dx);
        set(lab, 0, U, 0.7);
        set(lab, 0, R, 1);
        set(lab, 1, R, small);
        set(lab, 0, M, 1);
        set(lab, 1, M, small);
        lab.step(1);
        // As floats 1 + 2^-24 is 1, of the radii and of the masses.
        double w = ((0.7 - 0.0) * dx + 0.0) / (dx * dx);
        double t = 2.0 * w / 1f;
        due(lab, 0, U, 0.7 - t * small * dx);
        due(lab, 1, U, 0.0 + t * 1f * dx);
        set(lab, 1, X, 1.0);
        set(lab, 0, U, 0.7);
        set(lab, 1, U, 0);
        lab.step(1);
        due(lab, 0, U, 0.7);
    }

    private static void promise6NoMass() {
        MotionLab lab = new MotionLab();
        set(lab, 0, M, 0);
        set(lab, 1, M, -0.0);
        setField(lab, GX, 1);
        setField(lab, DRAG, 1);
        set(lab, 1, U, 1);
        lab.step(1);
        due(lab, 0, U, Double.NaN);
        due(lab, 0, X, Double.NaN);
        due(lab, 1, U, INFINITE);
        due(lab, 1, V, Double.NaN);
        due(lab, 2, U, 0.125);
    }

    private static void promise14Energy() {
        MotionLab lab = new MotionLab();
        set(lab, 0, M, 1.3);
        set(lab, 0, U, 0.7);
        set(lab, 0, V, -0.4);
        set(lab, 0, X, 3.3);
        set(lab, 1, Y, 0.9);
        setField(lab, GX, 0.11);
        setField(lab, GY, -9.81);
        float m = (float) 1.3;
        double e = 0.0 + 0.5 * m * (0.7 * 0.7 + -0.4 * -0.4) - m * (0.11 * 3.3 + -9.81 * 0.0);
        e = e + 0.5 * 1f * 0.0 - 1f * (0.11 * 0.0 + -9.81 * 0.9);
        CHECK.due("energy()", lab.energy(), e);
        addSpring(lab, 0, 1, 0.3f, 0.7f, 5f);
        addSpring(lab, 2, 3, 0.9f, 0.7f, 5f);
        double d = Reference.root((0.0 - 3.3) * (0.0 - 3.3) + 0.9 * 0.9);
        double stretched = e + 0.5 * 0.3f * (d - 0.7f) * (d - 0.7f);
        CHECK.due("energy with springs", lab.energy(), stretched + 0.5 * 0.9f * (0.0 - 0.7f) * (0.0 - 0.7f));
        set(lab, 5, U, Double.NaN);
        CHECK.due("energy of no number", lab.energy(), Double.NaN);
    }

    private static void promise15Mean() {
        MotionLab lab = new MotionLab();
        for (int what = X; what <= R; what++) {
            double t = 0.0;
            double q = 0.0;
            for (int body = 0; body < 8; body++) {
                double d = 0.1 * (body + 1) * (body + 1) + what;
                set(lab, body, what, d);
                double it = what >= M ? (float) d : d;
                double g = it - t;
                t = t + g / (body + 1.0);
                q = q + g * (it - t);
            }
            CHECK.due("mean(" + what + ", 0)", lab.mean(what, 0), t);
            CHECK.due("mean(" + what + ", 1)", lab.mean(what, 1), q);
        }
        for (int wrong : new int[] {Integer.MIN_VALUE, -1, 6, Integer.MAX_VALUE}) {
            CHECK.due("mean of " + wrong, lab.mean(wrong, 0), 1);
            CHECK.due("mean as " + wrong, lab.mean(0, wrong), 1);
        }
        CHECK.due("mean as 2", lab.mean(0, 2), 1);
        set(lab, 7, X, -INFINITE);
        CHECK.due("mean with infinite", lab.mean(X, 0), -INFINITE);
        CHECK.due("squares with infinite", lab.mean(X, 1), Double.NaN);
    }
}
