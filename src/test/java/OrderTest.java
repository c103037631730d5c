/**
 * "What follows is worked out just as it stands here": where the document's own way is TOO WIDE, no
 * shorter one is taken, and nothing is worked out that it does not ask for. Each formula stands over
 * its test; 99400891 is 9973 * 9967, both of them primes.
 */
public final class OrderTest extends Cases {
    private OrderTest() {
        super("OrderTest");
    }

    public static void main(String[] args) {
        OrderTest test = new OrderTest();
        test.footOfCut();
        test.rootOfCut();
        test.placeOfCut();
        test.offsetOfCut();
        test.commonLine();
        test.productOfRoots();
        test.inverseOfRoot();
        test.rootOfPair();
        test.constantOfLine();
        test.comparisons();
        test.comparisonOfAngles();
        test.side();
        test.oneLineTwice();
        test.onePointTwice();
        test.onItsOwnLine();
        test.onItsOwnCircle();
        test.end();
    }

    // "A * (E * m)": A is 5 * g, E is -A / 9973, and E * m is -5 / (9973 * 169 * g).

    private void footOfCut() {
        Watched c = cutThroughNought(1188);
        due(6, "E * m with q = 2002299156", () -> c.meet(4, 5, 1));
        x(c, 6, "288/1685437");
        y(c, 6, "120/1685437");
        Watched d = cutThroughNought(1596);
        refused(UNSUPPORTED, d, "E * m with q = 2689957452, though (A * E) * m would do", () -> d.meet(4, 5, 1));
    }

    // "B's negative * (S * m)": B is -12 * g, S is -B / 9973, and S * m is 12 / (9973 * 169 * g).

    private void rootOfCut() {
        Watched c = cutThroughNought(1195);
        due(6, "S * m with q = 2014097215", () -> c.meet(4, 5, 1));
        x(c, 6, "288/1685437");
        y(c, 6, "120/1685437");
        Watched d = cutThroughNought(1595);
        refused(UNSUPPORTED, d, "S * m with q = 2688272015, though (A * S) * m would do", () -> d.meet(4, 5, 1));
    }

    /** 4 is a line through 0 (0, 0) with A = 5 * g and B = -12 * g; 5 the circle round 3 (1/9973, 0) through 0. */
    private static Watched cutThroughNought(int g) {
        Watched c = new Watched();
        c.free(0, 1, 0, 1);
        c.free(-6 * g, 1, -5 * g, 2);
        c.free(6 * g, 1, 5 * g, 2);
        c.free(1, 9973, 0, 1);
        c.line(1, 2);
        c.circle(3, 3, 0);
        return c;
    }

    // "x is c.x + A * (E * m) less or more .. B's negative * (S * m), y is c.y + B * (E * m) less or more A * (S * m)":
    // A * (E * m) is 1 or -1, B * (E * m) is -1 or 1, and 2 is what is less or more.

    private void placeOfCut() {
        Watched right = farCut(2147483646, 2);
        due(12, "c.x + 1 = 2147483647", () -> right.meet(9, 11, 0));
        x(right, 12, "2147483645/1");
        y(right, 12, "2147483643/1");
        refused(UNSUPPORTED, right, "2 more than 2147483647", () -> right.meet(9, 11, 1));
        Watched up = farCut(2147483646, -2);
        due(12, "c.y + 1 = 2147483647", () -> up.meet(9, 11, 0));
        x(up, 12, "2147483643/1");
        y(up, 12, "2147483645/1");
        Watched tooFarRight = farCut(2147483647, 2);
        refused(UNSUPPORTED, tooFarRight, "c.x + 1 = 2147483648, 2 less", () -> tooFarRight.meet(9, 11, 0));
        Watched tooFarUp = farCut(2147483647, -2);
        refused(UNSUPPORTED, tooFarUp, "c.y + 1 = 2147483648, 2 less", () -> tooFarUp.meet(9, 11, 0));
    }

    /** farDiagonal(), and 9 the line x - y = e, with A = 1 and B = -1; 11 the circle round (t, t) with the SQUARE 10. */
    private static Watched farCut(int t, int e) {
        Watched c = Figures.farDiagonal(t);
        c.free(e, 1, 0, 1);
        c.free(e + 1, 1, 1, 1);
        c.line(7, 8);
        c.free(1, 1, 3, 1);
        c.circle(6, 0, 10);
        return c;
    }

    // "E is C - (A * c.x + B * c.y)": A and B are 1, and the sum is 2 * d + 19940 / 99400891.

    private void offsetOfCut() {
        Watched c = cutBesideCentre(10, 9, 11);
        due(9, "a sum with p = 1988037760", () -> c.meet(2, 8, 0));
        x(c, 9, "9974/9973");
        y(c, 9, "-9966/9967");
        Watched d = cutBesideCentre(11, 10, 12);
        refused(UNSUPPORTED, d, "a sum with p = 2186839542, though (C - A * c.x) - B * c.y is -22", () -> d.meet(2, 8, 0));
    }

    /** 2 is a line through 0 (1/9973, 1/9967); 8 the circle round 5, which is 0 and (d, d) more, with u * u + v * v. */
    private static Watched cutBesideCentre(int d, int u, int v) {
        Watched c = new Watched();
        c.free(1, 9973, 1, 9967);
        c.free(-9972, 9973, 9968, 9967);
        c.line(0, 1);
        c.free(2, 9973, 2, 9967);
        c.free(2 * d, 1, 2 * d, 1);
        c.middle(3, 4);
        c.free(0, 1, 0, 1);
        c.free(u, 1, v, 1);
        c.circle(5, 6, 7);
        return c;
    }

    // "C being (a.SQUARE - b.SQUARE) + ((b.c.x * b.c.x - a.c.x * a.c.x) + (b.c.y * b.c.y - a.c.y * a.c.y))": the sum of
    // the latter two is 2 * d * d + 2 * d * 19940 / 99400891, and C is 2 * d * d less.

    private void commonLine() {
        Watched c = circlesAslant(3, 4, 2);
        due(9, "a sum with p = 1789335678", () -> c.meet(7, 8, 0));
        x(c, 9, "9974/9973");
        y(c, 9, "-9966/9967");
        Watched d = circlesAslant(4, 5, 3);
        refused(UNSUPPORTED, d, "a sum with p = 3180988032, though C would fit", () -> d.meet(7, 8, 0));
    }

    /** 7 is the circle round 0 (1/9973, 1/9967), SQUARE 2; 8 that round 3, which is 0 and (d, d) more, u * u + v * v. */
    private static Watched circlesAslant(int d, int u, int v) {
        Watched c = new Watched();
        c.free(1, 9973, 1, 9967);
        c.free(2, 9973, 2, 9967);
        c.free(2 * d, 1, 2 * d, 1);
        c.middle(1, 2);
        c.free(0, 1, 0, 1);
        c.free(1, 1, 1, 1);
        c.free(u, 1, v, 1);
        c.circle(0, 4, 5);
        c.circle(3, 4, 6);
        return c;
    }

    // "(b * d) * R": b and d are the same, and R is 1/5000.

    private void productOfRoots() {
        Watched c = Figures.stretchedRoot(46340, 5, 1, 100);
        radicand(c, 1, "1/5000");
        x(c, 11, "0/1 46340/1");
        due(true, "b * d = 46340 * 46340", () -> c.equal(8, 11, 11, 8));
        Watched d = Figures.stretchedRoot(46345, 5, 1, 100);
        x(d, 11, "0/1 46345/1");
        refused(UNSUPPORTED, d, "b * d = 46345 * 46345, though b * (d * R) would do", () -> d.equal(8, 11, 11, 8));
    }

    // "INVERSE .. of (a, b) ..: with n = a * a - (b * b) * R": a is 0, and R is 1/5000.

    private void inverseOfRoot() {
        Watched c = slantingAndUpright(46340);
        due(16, "b * b = 46340 * 46340", () -> c.meet(12, 15, 0));
        x(c, 16, "1/1");
        y(c, 16, "0/1 1000/1");
        Watched d = slantingAndUpright(46345);
        refused(UNSUPPORTED, d, "b * b = 46345 * 46345, though b * (b * R) would do", () -> d.meet(12, 15, 0));
    }

    /** stretchedRoot(), and 12 the line through 0 and 11, 15 the line x = 1: D is b * the root of R. */
    private static Watched slantingAndUpright(int b) {
        Watched c = Figures.stretchedRoot(b, 5, 1, 100);
        c.line(0, 11);
        c.free(1, 1, 0, 1);
        c.free(1, 1, 1, 1);
        c.line(13, 14);
        return c;
    }

    // "n is the ROOT of a * a - (b * b) * R": a is 51, b is 10 * q, and R is 2 / (q * q), so that n is 49.

    private void rootOfPair() {
        Watched c = squareOfSum(4634);
        due(16, "b * b = 46340 * 46340", () -> c.meet(15, 13, 1));
        x(c, 16, "1/1 23170/1");
        Watched d = squareOfSum(4635);
        refused(UNSUPPORTED, d, "b * b = 46350 * 46350, though b * (b * R) would do", () -> d.meet(15, 13, 1));
    }

    /** stretchedRoot(), and 13 the circle round 0 with the SQUARE of 1 + 5 * q * the root of R, 15 the line y = 0. */
    private static Watched squareOfSum(int q) {
        Watched c = Figures.stretchedRoot(5 * q, 5, 1, q);
        c.free(-1, 1, q, 1);
        c.circle(0, 12, 11);
        c.free(1, 1, 0, 1);
        c.line(0, 14);
        return c;
    }

    /** 0 (0, 1/9973), 1 (1/q, 1/9967), and 2 the line through them: A is 6 / 99400891, B is -1/q. */
    private static Watched steep(int q) {
        Watched c = new Watched();
        c.free(0, 1, 1, 9973);
        c.free(1, q, 1, 9967);
        c.line(0, 1);
        return c;
    }

    // "C is A * p.x + B * p.y": not of q.

    private void constantOfLine() {
        Watched c = steep(19);
        due(3, "A * p.x with q = 1888616929", () -> c.line(1, 0));
        Watched d = steep(23);
        refused(UNSUPPORTED, d, "A * p.x with q = 2286220493", () -> d.line(1, 0));
        due(3, "A * p.x = 0", () -> d.line(0, 1));
    }

    // "A * x + B * y is the same as C", "u * u + v * v is the same as the SQUARE": no difference is worked out.

    private void comparisons() {
        Watched c = Figures.axis();
        Figures.far(c, 2147483647);
        c.free(-1, 1, 0, 1);
        c.free(-1, 1, 1, 1);
        c.line(7, 8);
        due(false, "2147483647 is not -1", () -> c.on(6, 9));
        due(false, "nor are the points the same", () -> c.same(6, 7));
        c.free(1, 9973, 0, 1);
        c.free(0, 1, 1, 9967);
        c.circle(0, 0, 11);
        due(false, "the square of 1/9973 is not that of 1/9967", () -> c.on(10, 12));
        due(false, "the squares of two distances", () -> c.equal(0, 10, 0, 11));
    }

    // "a.A * b.B is the same as b.A * a.B": these are 9967 / (9973 * 9949) and 9973 / (9967 * 9949).

    private void comparisonOfAngles() {
        Watched c = new Watched();
        c.free(0, 1, 0, 1);
        c.free(1, 9967, 1, 9973);
        c.free(9967, 9949, 9973, 9949);
        c.free(-9967, 9949, 9973, 9949);
        c.line(0, 1);
        c.line(0, 2);
        c.line(0, 3);
        due(0, "a.A * b.A + a.B * b.B = 2/9949", () -> c.angle(4, 5));
        due(2, "a.A * b.A + a.B * b.B = 0", () -> c.angle(4, 6));
        due(2, "the other way round", () -> c.angle(6, 4));
    }

    // "the sign of (q.x - p.x) * (r.y - p.y) - (q.y - p.y) * (r.x - p.x)": r.x - q.x is not worked out.

    private void side() {
        Watched c = Figures.axis();
        Figures.far(c, 2147483647);
        c.free(-1, 1, 1, 1);
        due(1, "side(0, 6, 7)", () -> c.side(0, 6, 7));
        due(-1, "side(0, 7, 6)", () -> c.side(0, 7, 6));
        refused(UNSUPPORTED, c, "side(6, 0, 7)", () -> c.side(6, 0, 7));
        refused(UNSUPPORTED, c, "side(7, 0, 6)", () -> c.side(7, 0, 6));
    }

    // "1 if they are parallel (a.A * b.B is the same as b.A * a.B; also one line twice)"; "as does a question with
    // something TOO WIDE".

    private void oneLineTwice() {
        Watched c = steep(19);
        due(1, "A * B with q = 1888616929", () -> c.angle(2, 2));
        Watched d = steep(23);
        refused(UNSUPPORTED, d, "A * B with q = 2286220493", () -> d.angle(2, 2));
    }

    // "(they may be the same, here and in side())"

    private void onePointTwice() {
        Watched c = Figures.axis();
        Figures.far(c, 2147483647);
        c.free(-1, 1, 0, 1);
        due(0, "side(6, 6, 0)", () -> c.side(6, 6, 0));
        due(0, "side(6, 0, 6)", () -> c.side(6, 0, 6));
        due(0, "side(0, 6, 6)", () -> c.side(0, 6, 6));
        refused(UNSUPPORTED, c, "r.x - p.x = -2147483648", () -> c.side(6, 6, 7));
        refused(UNSUPPORTED, c, "q.x - p.x = -2147483648", () -> c.side(6, 7, 6));
        refused(UNSUPPORTED, c, "q.x - p.x = 2147483648", () -> c.side(7, 6, 6));
        due(true, "equal(6, 6, 7, 7)", () -> c.equal(6, 6, 7, 7));
        refused(UNSUPPORTED, c, "0 and what is TOO WIDE", () -> c.equal(6, 6, 0, 6));
        refused(UNSUPPORTED, c, "what is TOO WIDE and 0", () -> c.equal(0, 6, 6, 6));
    }

    // "Whether point p lies on a line (A * x + B * y is the same as C)": also for a point that it was made of.

    private void onItsOwnLine() {
        Watched c = steep(19);
        due(true, "A * x with q = 1888616929", () -> c.on(1, 2));
        Watched d = steep(23);
        due(true, "A * x = 0", () -> d.on(0, 2));
        refused(UNSUPPORTED, d, "A * x with q = 2286220493", () -> d.on(1, 2));
    }

    // "or circle (u * u + v * v is the same as the SQUARE ..)": also for its meeting, which is (4 / (5 * k), 3 / (5 * k)).

    private void onItsOwnCircle() {
        Watched c = smallCircle(9267);
        x(c, 5, "4/46335");
        due(true, "u * u with q = 2146932225", () -> c.on(5, 4));
        Watched d = smallCircle(9269);
        x(d, 5, "4/46345");
        refused(UNSUPPORTED, d, "u * u with q = 2147859025", () -> d.on(5, 4));
        due(true, "on the line", () -> d.on(5, 3));
    }

    /** 3 is the line through 0 (0, 0) and 1 (4, 3), 4 the circle round 0 with the SQUARE of 1/k, 5 where they meet. */
    private static Watched smallCircle(int k) {
        Watched c = new Watched();
        c.free(0, 1, 0, 1);
        c.free(4, 1, 3, 1);
        c.free(1, k, 0, 1);
        c.line(0, 1);
        c.circle(0, 0, 2);
        c.meet(3, 4, 1);
        return c;
    }
}
