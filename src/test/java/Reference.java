/** The document's words in the doubles and floats of the machine, to compare with. */
final class Reference {
    private static final int BODIES = 8;
    private static final int MOST_SPRINGS = 10;

    private final double[] x = new double[BODIES];
    private final double[] y = new double[BODIES];
    private final double[] u = new double[BODIES];
    private final double[] v = new double[BODIES];
    private final float[] m = new float[BODIES];
    private final float[] r = new float[BODIES];
    private final double[] fx = new double[BODIES];
    private final double[] fy = new double[BODIES];
    private double gx;
    private double gy;
    private double drag;
    private float dt = 0.125f;
    private double wall = Double.POSITIVE_INFINITY;
    private float back = 1f;
    private final int[] ends = new int[2 * MOST_SPRINGS];
    private final float[] klc = new float[3 * MOST_SPRINGS];
    private int springs;
    private final double[] store = new double[8];

    Reference() {
        java.util.Arrays.fill(m, 1f);
    }

    private static boolean in(int n, int end) {
        return n >= 0 && n < end;
    }

    private static long told(double d) {
        return Double.doubleToLongBits(d);
    }

    static double root(double d) {
        if (!(d > 0) || Double.isInfinite(d)) {
            return d;
        }
        double s = Double.longBitsToDouble(Double.doubleToRawLongBits(d) / 2 + 2303591209400008704L);
        for (int i = 0; i < 5; i++) {
            s = (s + d / s) / 2.0;
        }
        return s;
    }

    int body(int body, int what, long bits) {
        if (!in(body, BODIES) || !in(what, 6)) {
            return -1;
        }
        double d = Double.longBitsToDouble(bits);
        switch (what) {
            case 0 -> x[body] = d;
            case 1 -> y[body] = d;
            case 2 -> u[body] = d;
            case 3 -> v[body] = d;
            case 4 -> m[body] = (float) d;
            default -> r[body] = (float) d;
        }
        return 0;
    }

    int field(int what, long bits) {
        if (!in(what, 6)) {
            return -1;
        }
        double d = Double.longBitsToDouble(bits);
        switch (what) {
            case 0 -> gx = d;
            case 1 -> gy = d;
            case 2 -> drag = d;
            case 3 -> dt = (float) d;
            case 4 -> wall = d;
            default -> back = (float) d;
        }
        return 0;
    }

    int spring(int i, int j, int k, int l, int c) {
        if (!in(i, BODIES) || !in(j, BODIES) || i == j) {
            return -1;
        }
        if (springs == MOST_SPRINGS) {
            return -3;
        }
        ends[2 * springs] = i;
        ends[2 * springs + 1] = j;
        klc[3 * springs] = Float.intBitsToFloat(k);
        klc[3 * springs + 1] = Float.intBitsToFloat(l);
        klc[3 * springs + 2] = Float.intBitsToFloat(c);
        return springs++;
    }

    int cut() {
        return springs == 0 ? -2 : --springs;
    }

    int step(int n) {
        if (n < 0 || n > 20) {
            return -1;
        }
        for (int i = 0; i < n; i++) {
            stepOnce();
        }
        return 0;
    }

    private void stepOnce() {
        for (int i = 0; i < BODIES; i++) {
            fx[i] = m[i] * gx - drag * u[i];
            fy[i] = m[i] * gy - drag * v[i];
        }
        for (int s = 0; s < springs; s++) {
            pull(ends[2 * s], ends[2 * s + 1], klc[3 * s], klc[3 * s + 1], klc[3 * s + 2]);
        }
        for (int i = 0; i < BODIES; i++) {
            move(i);
        }
        for (int i = 0; i < BODIES; i++) {
            for (int j = i + 1; j < BODIES; j++) {
                collide(i, j);
            }
        }
    }

    private void pull(int i, int j, float k, float l, float c) {
        double dx = x[j] - x[i];
        double dy = y[j] - y[i];
        double d = root(dx * dx + dy * dy);
        if (d > 0) {
            double p = k * (d - l) / d + c * ((u[j] - u[i]) * dx + (v[j] - v[i]) * dy) / (d * d);
            fx[i] = fx[i] + p * dx;
            fy[i] = fy[i] + p * dy;
            fx[j] = fx[j] - p * dx;
            fy[j] = fy[j] - p * dy;
        }
    }

    private void move(int i) {
        u[i] = u[i] + fx[i] / m[i] * dt;
        v[i] = v[i] + fy[i] / m[i] * dt;
        x[i] = x[i] + u[i] * dt;
        y[i] = y[i] + v[i] * dt;
        if (x[i] > wall) {
            x[i] = wall - (x[i] - wall) * back;
            u[i] = -(u[i] * back);
        } else if (x[i] < -wall) {
            x[i] = -wall - (x[i] + wall) * back;
            u[i] = -(u[i] * back);
        }
        if (y[i] > wall) {
            y[i] = wall - (y[i] - wall) * back;
            v[i] = -(v[i] * back);
        } else if (y[i] < -wall) {
            y[i] = -wall - (y[i] + wall) * back;
            v[i] = -(v[i] * back);
        }
    }

    private void collide(int i, int j) {
        double dx = x[j] - x[i];
        double dy = y[j] - y[i];
        double q = dx * dx + dy * dy;
        float s = r[i] + r[j];
        if (q < (double) (s * s) && q > 0) {
            double w = ((u[i] - u[j]) * dx + (v[i] - v[j]) * dy) / q;
            if (w > 0) {
                double t = 2.0 * w / (m[i] + m[j]);
                u[i] = u[i] - t * m[j] * dx;
                v[i] = v[i] - t * m[j] * dy;
                u[j] = u[j] + t * m[i] * dx;
                v[j] = v[j] + t * m[i] * dy;
            }
        }
    }

    private double bodyNumber(int body, int what) {
        return switch (what) {
            case 0 -> x[body];
            case 1 -> y[body];
            case 2 -> u[body];
            case 3 -> v[body];
            case 4 -> m[body];
            default -> r[body];
        };
    }

    long tell(int body, int what) {
        return in(body, BODIES) && in(what, 6) ? told(bodyNumber(body, what)) : 1;
    }

    long about(int what) {
        return switch (what) {
            case 0 -> told(gx);
            case 1 -> told(gy);
            case 2 -> told(drag);
            case 3 -> told(dt);
            case 4 -> told(wall);
            case 5 -> told(back);
            default -> 1;
        };
    }

    int keep(int k, long bits) {
        if (!in(k, 8)) {
            return -1;
        }
        store[k] = Double.longBitsToDouble(bits);
        return 0;
    }

    long reckon(int op, int k, int a, int b) {
        if (!in(op, 15) || !in(k, 8) || !in(a, 8) || !in(b, 8)) {
            return 1;
        }
        double d = store[a];
        double e = store[b];
        float f = (float) d;
        float g = (float) e;
        store[k] = switch (op) {
            case 0 -> d + e;
            case 1 -> d - e;
            case 2 -> d * e;
            case 3 -> d / e;
            case 4 -> d % e;
            case 5 -> root(d);
            case 6 -> -d;
            case 7 -> f;
            case 8 -> f + g;
            case 9 -> f - g;
            case 10 -> f * g;
            case 11 -> f / g;
            case 12 -> f % g;
            case 13 -> Math.min(d, e);
            default -> Math.max(d, e);
        };
        return told(store[k]);
    }

    long whole(int k, int kind, long w) {
        if (!in(k, 8) || !in(kind, 2)) {
            return 1;
        }
        store[k] = kind == 0 ? (double) w : (float) w;
        return told(store[k]);
    }

    long cast(int k, int kind) {
        if (!in(k, 8) || !in(kind, 5)) {
            return 1L << 62;
        }
        double d = store[k];
        return switch (kind) {
            case 0 -> (int) d;
            case 1 -> (long) d;
            case 2 -> (short) d;
            case 3 -> (char) (int) d;
            default -> (byte) d;
        };
    }

    int compare(int a, int b) {
        if (!in(a, 8) || !in(b, 8)) {
            return -1;
        }
        double d = store[a];
        double e = store[b];
        return (d < e ? 1 : 0) | (d <= e ? 2 : 0) | (d == e ? 4 : 0)
            | (d != e ? 8 : 0) | (d >= e ? 16 : 0) | (d > e ? 32 : 0);
    }

    long energy() {
        double e = 0.0;
        for (int i = 0; i < BODIES; i++) {
            e = e + 0.5 * m[i] * (u[i] * u[i] + v[i] * v[i]) - m[i] * (gx * x[i] + gy * y[i]);
        }
        for (int s = 0; s < springs; s++) {
            double dx = x[ends[2 * s + 1]] - x[ends[2 * s]];
            double dy = y[ends[2 * s + 1]] - y[ends[2 * s]];
            double d = root(dx * dx + dy * dy);
            float l = klc[3 * s + 1];
            e = e + 0.5 * klc[3 * s] * (d - l) * (d - l);
        }
        return told(e);
    }

    long mean(int number, int what) {
        if (!in(number, 6) || !in(what, 2)) {
            return 1;
        }
        double[] all = new double[BODIES];
        for (int n = 0; n < BODIES; n++) {
            all[n] = bodyNumber(n, number);
        }
        return told(what == 0 ? mean(all) : squares(all));
    }

    static double mean(double[] all) {
        double t = 0.0;
        for (int n = 0; n < all.length; n++) {
            t = t + (all[n] - t) / (n + 1.0);
        }
        return t;
    }

    static double squares(double[] all) {
        double t = 0.0;
        double q = 0.0;
        for (int n = 0; n < all.length; n++) {
            double g = all[n] - t;
            t = t + g / (n + 1.0);
            q = q + g * (all[n] - t);
        }
        return q;
    }

    long horner(int k) {
        if (!in(k, 8)) {
            return 1;
        }
        double e = store[7];
        for (int c = 6; c >= 0; c--) {
            e = e * store[k] + store[c];
        }
        return told(e);
    }

    int single(int k) {
        return in(k, 8) ? Float.floatToIntBits((float) store[k]) : 1;
    }

    long fromSingle(int k, int bits) {
        if (!in(k, 8)) {
            return 1;
        }
        store[k] = Float.intBitsToFloat(bits);
        return told(store[k]);
    }
}
