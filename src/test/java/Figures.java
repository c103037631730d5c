/** The figures that several tests begin with. */
final class Figures {
    private static final int WIDEST_INPUT = 10000;

    private Figures() {
    }

    /** Points 0 (0, 0), 1 (1, 0), 2 (1, 1) and 3 (0, 1); 4 the line 0 1; 5 the circle round 0 with the SQUARE 2. */
    static Watched unitSquare() {
        Watched c = new Watched();
        c.free(0, 1, 0, 1);
        c.free(1, 1, 0, 1);
        c.free(1, 1, 1, 1);
        c.free(0, 1, 1, 1);
        c.line(0, 1);
        c.circle(0, 0, 2);
        return c;
    }

    /** unitSquare(), and 6, the point (root of 2, 0). */
    static Watched rootOfTwo() {
        Watched c = unitSquare();
        c.meet(4, 5, 1);
        return c;
    }

    /**
     * 0 (0, 0), 1 (0, 1), 2 (1, 1), 3 (0, 1/2), 4 (1, 0); 5 the line x = 0; 6 the circle round 3 through
     * 4; 7 (0, g), g being the golden ratio, 1/2 + the root of 5/4; 8 the circle round 0 through 7; 9 the
     * line y = 1; 10 the point (root of g, 1) at DEPTH 2.
     */
    static Watched golden() {
        Watched c = new Watched();
        c.free(0, 1, 0, 1);
        c.free(0, 1, 1, 1);
        c.free(1, 1, 1, 1);
        c.free(0, 1, 1, 2);
        c.free(1, 1, 0, 1);
        c.line(0, 1);
        c.circle(3, 3, 4);
        c.meet(5, 6, 1);
        c.circle(0, 0, 7);
        c.line(1, 2);
        c.meet(9, 8, 1);
        return c;
    }

    /** 0 (0, 0), 1 (1, 0), 2 (0, 25/43), 3 (to, 4993/8588), 4 and 5 the lines 0 1 and 2 3; they meet at to * 214700. */
    static Watched farOff(int to) {
        Watched c = new Watched();
        c.free(0, 1, 0, 1);
        c.free(1, 1, 0, 1);
        c.free(0, 1, 25, 43);
        c.free(to, 1, 4993, 8588);
        c.line(0, 1);
        c.line(2, 3);
        c.meet(5, 4, 0);
        return c;
    }

    static Watched full() {
        Watched c = unitSquare();
        while (c.look(0) < 24) {
            c.free(c.look(0), 1, 0, 1);
        }
        return c;
    }

    /** full(), but for the last object. */
    static Watched oneShort() {
        Watched c = unitSquare();
        while (c.look(0) < 23) {
            c.free(c.look(0), 1, 0, 1);
        }
        return c;
    }

    /** 0 (0, 0), 1 (1, 0), and 2 the line y = 0, with A = 0, B = -1 and C = 0. */
    static Watched axis() {
        Watched c = new Watched();
        c.free(0, 1, 0, 1);
        c.free(1, 1, 0, 1);
        c.line(0, 1);
        return c;
    }

    /** Four objects more for axis(); the last of them, whose number is the answer, is the point (t, 0), however far. */
    static int far(Watched c, int t) {
        int size = Math.abs(t);
        int turn = t < 0 ? -1 : 1;
        // With a * d = m and b * e = m + 1, the line through (x, a / b) and (x - k, e / d) meets y = 0 at x + k * m.
        for (int k = 1; k <= 2 * WIDEST_INPUT; k++) {
            int m = size / k;
            int x = size % k;
            int a = factor(m);
            int b = factor(m + 1);
            if (a > 0 && b > 0 && x <= WIDEST_INPUT && k - x <= WIDEST_INPUT) {
                int p = c.free(turn * x, 1, a, b);
                int q = c.free(turn * (x - k), 1, (m + 1) / b, m / a);
                return c.meet(2, c.line(p, q), 0);
            }
        }
        throw new AssertionError("no way to " + t);
    }

    /** A divisor of m that free() takes, as it takes m without it; 0 if there is none. */
    private static int factor(int m) {
        for (int f = 1; f <= WIDEST_INPUT; f++) {
            if (m > 0 && m % f == 0 && m / f <= WIDEST_INPUT) {
                return f;
            }
        }
        return 0;
    }

    /** 0 (0, 0), 1 (1, 1), 2 the line through them, with A = 1, B = -1 and C = 0; 6 on it (t, t), however far. */
    static Watched farDiagonal(int t) {
        Watched c = new Watched();
        c.free(0, 1, 0, 1);
        c.free(1, 1, 1, 1);
        c.line(0, 1);
        // The line through (v - u, v) and (-u, 1 / z) meets x = y at z * u * v - u + v.
        for (int z = 1; z <= WIDEST_INPUT; z++) {
            for (int v = 1; v <= WIDEST_INPUT; v++) {
                int u = (t - v) / Math.max(z * v - 1, 1);
                if (u <= WIDEST_INPUT && z * u * v - u + v == t) {
                    c.free(v - u, 1, v, 1);
                    c.free(-u, 1, 1, z);
                    c.line(3, 4);
                    c.meet(2, 5, 0);
                    return c;
                }
            }
        }
        throw new AssertionError("no way to " + t);
    }

    /** axis(), far(t), which is 6, and more: 11 is the line x = s, and 12 on it (s, (t - s) / t). */
    static Watched slope(int t, int s) {
        Watched c = axis();
        int f = far(c, t);
        int top = c.free(0, 1, 1, 1);
        int slanting = c.line(top, f);
        int upright = c.line(c.free(s, 1, 0, 1), c.free(s, 1, 1, 1));
        c.meet(slanting, upright, 0);
        return c;
    }

    /**
     * Two times w * w is r, so that the first RADICAND is r: 8 is (0, b / parts), 11 (b * root of r, b / parts).
     * w is told by its p and q.
     */
    static Watched stretchedRoot(int b, int parts, int p, int q) {
        Watched c = new Watched();
        c.free(0, 1, 0, 1);
        c.free(0, 1, 1, parts);
        c.free(1, 1, 1, parts);
        c.line(1, 2);
        c.free(p, q, p, q);
        c.circle(1, 0, 4);
        c.meet(3, 5, 1);
        c.line(0, 6);
        c.free(0, 1, b / parts, 1);
        c.free(1, 1, b / parts, 1);
        c.line(8, 9);
        c.meet(7, 10, 0);
        return c;
    }

    /** golden(), and 11 the line through 0 and 10, 14 the line y = h, and 15 (h * root of g, h). */
    static Watched stretchedGolden(int h) {
        Watched c = golden();
        c.line(0, 10);
        c.free(0, 1, h, 1);
        c.free(1, 1, h, 1);
        c.line(12, 13);
        c.meet(11, 14, 0);
        return c;
    }
}
