/**
 * The sentences of the document's Terms that name a boundary, one by one (each stands over its test),
 * at the last value that is allowed and at the first that is not.
 */
public final class TermsTest extends Cases {
    private TermsTest() {
        super("TermsTest");
    }

    public static void main(String[] args) {
        TermsTest test = new TermsTest();
        test.fractions();
        test.widestSums();
        test.widestDifferences();
        test.widestProducts();
        test.widestDenominators();
        test.widestSquares();
        test.widestPairs();
        test.tooWideOnTheWay();
        test.signs();
        test.signsOfLevelTwo();
        test.signsTooWide();
        test.inversesTooWide();
        test.sameNumbers();
        test.rootsOfFractions();
        test.rootsOfPairsWithoutB();
        test.rootsOfPairs();
        test.rootsOfLevelTwoWithoutB();
        test.rootsOfLevelTwo();
        test.belowNought();
        test.belowNoughtByLittle();
        test.thirdLevel();
        test.newLevel();
        test.rootTooWide();
        test.rootTooWideByDivision();
        test.rootTooWideBeforeTheNext();
        test.firstHalfTooWide();
        test.rootTooWideInItsSign();
        test.atMost24();
        test.linesThatFail();
        test.circlesThatFail();
        test.meetingsOfLinesThatFail();
        test.meetingsOfCirclesThatFail();
        test.firstOfTwoCircles();
        test.redrawing();
        test.questionsTooWide();
        test.severalExceptions();
        test.lastCall();
        test.end();
    }

    // "A FRACTION p / q has q above 0 and no common divisor (0 is 0 / 1)."

    private void fractions() {
        Watched c = new Watched();
        c.free(0, 10000, 10000, 10000);
        x(c, 0, "0/1");
        y(c, 0, "1/1");
        c.free(-9999, 3, -5000, 10000);
        x(c, 1, "-3333/1");
        y(c, 1, "-1/2");
        c.free(1, 3, 9999, 10000);
        c.free(-1, 3, 1, 10000);
        due(4, "middle(2, 3)", () -> c.middle(2, 3));
        x(c, 4, "0/1");
        y(c, 4, "1/2");
        // With D = 3 one way round and -3 the other.
        Watched d = new Watched();
        d.free(0, 1, 0, 1);
        d.free(-2, 1, 1, 1);
        d.free(0, 1, -1, 1);
        d.free(1, 1, 0, 1);
        d.line(0, 1);
        d.line(2, 3);
        due(6, "meet(4, 5, 0)", () -> d.meet(4, 5, 0));
        due(7, "meet(5, 4, 0)", () -> d.meet(5, 4, 0));
        for (int p = 6; p <= 7; p++) {
            x(d, p, "2/3");
            y(d, p, "-1/3");
        }
    }

    // "if its p is above 2147483647 or below -2147483647, or its q above 2147483647, that is TOO WIDE"

    private void widestSums() {
        Watched c = Figures.axis();
        Figures.far(c, 2147483647);
        x(c, 6, "2147483647/1");
        due(7, "a sum of 2147483647", () -> c.middle(6, 0));
        x(c, 7, "2147483647/2");
        refused(UNSUPPORTED, c, "a sum of 2147483648, though its half would do", () -> c.middle(6, 1));
        refused(UNSUPPORTED, c, "the same sum the other way round", () -> c.middle(1, 6));
        Watched d = Figures.axis();
        Figures.far(d, -2147483647);
        x(d, 6, "-2147483647/1");
        due(7, "a sum of -2147483647", () -> d.middle(0, 6));
        x(d, 7, "-2147483647/2");
        d.free(-1, 1, 0, 1);
        refused(UNSUPPORTED, d, "a sum of -2147483648", () -> d.middle(6, 8));
    }

    private void widestDifferences() {
        Watched c = Figures.axis();
        Figures.far(c, 2147483647);
        due(1, "2147483647 less 0", () -> c.sign(6, false, 0));
        due(1, "2147483647 less 1", () -> c.sign(6, false, 1));
        refused(UNSUPPORTED, c, "2147483647 less -1", () -> c.sign(6, false, -1));
        c.free(-1, 1, 0, 1);
        due(8, "a line with B = -2147483647", () -> c.line(0, 6));
        due(9, "a line with B = 2147483647", () -> c.line(6, 0));
        refused(UNSUPPORTED, c, "a line with B = -2147483648", () -> c.line(7, 6));
        refused(UNSUPPORTED, c, "a line with B = 2147483648", () -> c.line(6, 7));
        Watched d = Figures.axis();
        Figures.far(d, -2147483647);
        due(-1, "-2147483647 less 0", () -> d.sign(6, false, 0));
        refused(UNSUPPORTED, d, "-2147483647 less 1", () -> d.sign(6, false, 1));
    }

    private void widestProducts() {
        Watched c = Figures.axis();
        Figures.far(c, 2147483647);
        c.middle(6, 0);
        upAndDown(c);
        due(false, "A * x = 2147483647", () -> c.on(7, 9));
        due(false, "A * x = -2147483647", () -> c.on(7, 10));
        Watched d = Figures.axis();
        Figures.far(d, 1073741824);
        d.free(0, 1, 0, 1);
        upAndDown(d);
        refused(UNSUPPORTED, d, "A * x = 2147483648", () -> d.on(6, 9));
        refused(UNSUPPORTED, d, "A * x = -2147483648", () -> d.on(6, 10));
    }

    /** For a figure of eight objects: 9 and 10 are the line x = 0, with A = 2 and A = -2. */
    private static void upAndDown(Watched c) {
        c.free(0, 1, 2, 1);
        c.line(0, 8);
        c.line(8, 0);
    }

    private void widestDenominators() {
        Watched whole = Figures.slope(2147483647, 1);
        y(whole, 12, "2147483646/2147483647");
        due(13, "a sum with q = 2147483647", () -> whole.middle(12, 0));
        y(whole, 13, "1073741823/2147483647");
        due(14, "a difference with q = 2147483647", () -> whole.line(0, 12));
        Watched third = Figures.slope(715827883, 1);
        y(third, 12, "715827882/715827883");
        third.free(0, 1, 1, 3);
        refused(UNSUPPORTED, third, "a sum with q = 2147483649", () -> third.middle(12, 13));
        refused(UNSUPPORTED, third, "a difference with q = 2147483649", () -> third.line(12, 13));
        third.free(0, 1, 1, 2);
        due(15, "a difference with q = 1431655766", () -> third.line(14, 12));
        Watched under = Figures.slope(1073741823, 2);
        y(under, 12, "1073741821/1073741823");
        due(13, "a product with q = 2147483646", () -> under.middle(0, 12));
        y(under, 13, "1073741821/2147483646");
        Watched above = Figures.slope(1073741824, 1);
        y(above, 12, "1073741823/1073741824");
        refused(UNSUPPORTED, above, "a product with q = 2147483648", () -> above.middle(0, 12));
        due(13, "line(0, 12)", () -> above.line(0, 12));
    }

    private void widestSquares() {
        Watched c = Figures.axis();
        Figures.far(c, 46340);
        Figures.far(c, 46341);
        x(c, 10, "46341/1");
        due(11, "46340 * 46340", () -> c.circle(1, 0, 6));
        due(true, "46340 * 46340", () -> c.equal(0, 6, 6, 0));
        refused(UNSUPPORTED, c, "46341 * 46341 as a SQUARE", () -> c.circle(1, 0, 10));
        refused(UNSUPPORTED, c, "46341 * 46341 in equal(), first", () -> c.equal(0, 10, 0, 1));
        refused(UNSUPPORTED, c, "46341 * 46341 in equal(), second", () -> c.equal(0, 1, 10, 0));
        due(12, "circle(0, 0, 1)", () -> c.circle(0, 0, 1));
        due(false, "46340 * 46340 in on()", () -> c.on(6, 12));
        refused(UNSUPPORTED, c, "46341 * 46341 in on()", () -> c.on(10, 12));
    }

    // "PRODUCT of (a, b), (c, d): (a * c + (b * d) * R, a * d + b * c)": each of these may be TOO WIDE.

    private void widestPairs() {
        Watched c = Figures.stretchedRoot(32767, 31, 1, 1);
        x(c, 11, "0/1 32767/1");
        due(true, "(b * d) * 2 = 2147352578", () -> c.equal(8, 11, 11, 8));
        Watched d = Figures.stretchedRoot(32768, 4, 1, 1);
        x(d, 11, "0/1 32768/1");
        refused(UNSUPPORTED, d, "(b * d) * 2 = 2147483648", () -> d.equal(8, 11, 11, 8));
        refused(UNSUPPORTED, d, "(b * d) * 2 = 2147483648", () -> d.circle(0, 8, 11));
        due(false, "equal(8, 9, 0, 8)", () -> d.equal(8, 9, 0, 8));
        // 32768 + b * the root of 1/2: a * a and (b * b) * R are far below, only a * b + b * a is not.
        Watched e = Figures.stretchedRoot(32766, 6, 1, 2);
        leftOfRoot(e);
        due(true, "a * b + b * a = 2147352576", () -> e.equal(17, 11, 11, 17));
        Watched f = Figures.stretchedRoot(32768, 4, 1, 2);
        leftOfRoot(f);
        refused(UNSUPPORTED, f, "a * b + b * a = 2147483648", () -> f.equal(17, 11, 11, 17));
    }

    /** For stretchedRoot(): 17 is the point (-32768, 0). */
    private static void leftOfRoot(Watched c) {
        c.free(1, 1, 0, 1);
        c.line(0, 12);
        c.free(0, 1, 4, 1);
        c.free(-8192, 1, 3, 1);
        c.line(14, 15);
        c.meet(13, 16, 0);
    }

    // "each sum, difference and product of two fractions that comes up": also if what comes out would fit again.

    private void tooWideOnTheWay() {
        Watched c = Figures.axis();
        Figures.far(c, 2147483647);
        c.free(2, 1, 0, 1);
        c.free(-1, 1, 0, 1);
        due(9, "middle(6, 8): 2147483646 / 2", () -> c.middle(6, 8));
        x(c, 9, "1073741823/1");
        refused(UNSUPPORTED, c, "middle(6, 7): 2147483649 / 2", () -> c.middle(6, 7));
        // u * u - and so the answer - is the same for both pairs, but can't be known.
        refused(UNSUPPORTED, c, "equal(0, 6, 0, 6)", () -> c.equal(0, 6, 0, 6));
        due(0, "what is TOO WIDE in no step", () -> c.side(0, 6, 9));
    }

    // "SIGN of (a, b), s and t being those of a and b: s, if t is 0 or the same; t, if s is 0; else .."

    private void signs() {
        Watched c = Figures.rootOfTwo();
        c.meet(4, 5, 0);
        int[][] cases = {
            // point, n, sign: point 6 is (root of 2, 0), 7 is its negative
            {6, -1, 1}, {6, 0, 1}, {6, 1, 1}, {6, 2, -1}, {7, 1, -1}, {7, 0, -1}, {7, -1, -1}, {7, -2, 1},
            {1, 0, 1}, {1, 1, 0}, {1, 2, -1}};
        for (int[] d : cases) {
            due(d[2], "sign(" + d[0] + ", false, " + d[1] + ")", () -> c.sign(d[0], false, d[1]));
        }
        // 8119 * 8119 is one less than 2 * 5741 * 5741, and 3363 * 3363 one more than 2 * 2378 * 2378.
        Watched d = Figures.stretchedRoot(5741, 1, 1, 1);
        due(1, "5741 * root of 2 less 8119", () -> d.sign(11, false, 8119));
        due(-1, "5741 * root of 2 less 8120", () -> d.sign(11, false, 8120));
        Watched e = Figures.stretchedRoot(2378, 1, 1, 1);
        due(1, "2378 * root of 2 less 3362", () -> e.sign(11, false, 3362));
        due(-1, "2378 * root of 2 less 3363", () -> e.sign(11, false, 3363));
    }

    private void signsOfLevelTwo() {
        Watched c = Figures.golden();
        c.meet(9, 8, 0);
        int[][] cases = {
            // point, n, sign: point 10 is (root of g, 1), 1.27.., and 11 has its negative
            {10, -1, 1}, {10, 0, 1}, {10, 1, 1}, {10, 2, -1}, {11, 1, -1}, {11, 0, -1}, {11, -1, -1}, {11, -2, 1},
            {4, 0, 1}, {4, 1, 0}, {4, 2, -1}};
        for (int[] d : cases) {
            due(d[2], "sign(" + d[0] + ", false, " + d[1] + ")", () -> c.sign(d[0], false, d[1]));
        }
        // 1 - g is below 0, though its first fraction is above; so is (1 - g) * root of g.
        c.meet(5, 6, 0);
        y(c, 12, "1/2 -1/1");
        due(-1, "sign(12, true, 0)", () -> c.sign(12, true, 0));
        due(1, "sign(12, true, -1)", () -> c.sign(12, true, -1));
        due(-1, "side(0, 10, 12)", () -> c.side(0, 10, 12));
        due(1, "side(0, 10, 7)", () -> c.side(0, 10, 7));
    }

    private void signsTooWide() {
        Watched c = Figures.axis();
        Figures.far(c, 46340);
        Figures.far(c, 46341);
        c.free(1, 1, 1, 1);
        c.circle(6, 0, 11);
        c.circle(10, 0, 11);
        c.meet(2, 12, 0);
        c.meet(2, 13, 0);
        c.meet(2, 13, 1);
        x(c, 14, "46340/1 -1/1");
        x(c, 15, "46341/1 -1/1");
        x(c, 16, "46341/1 1/1");
        due(1, "a * a = 46340 * 46340", () -> c.sign(14, false, 0));
        refused(UNSUPPORTED, c, "a * a = 46341 * 46341", () -> c.sign(15, false, 0));
        due(1, "46340 - root of 2", () -> c.sign(15, false, 1));
        due(1, "s, t being the same", () -> c.sign(16, false, 0));
        due(1, "s, t being 0", () -> c.sign(10, false, 0));
        due(-1, "t, s being 0", () -> c.sign(15, false, 46341));
        due(1, "t, s being 0", () -> c.sign(16, false, 46341));
        due(-1, "side() of -46340 + root of 2", () -> c.side(0, 11, 14));
        refused(UNSUPPORTED, c, "side() of -46341 + root of 2", () -> c.side(0, 11, 15));
        due(-1, "side() of -46341 - root of 2", () -> c.side(0, 11, 16));
        signsOfLevelTwoTooWide();
    }

    /** a - 2 * root of g: a * a - (b * b) * R is (a * a - 2, -4), and the SIGN of that has the square of its first part. */
    private void signsOfLevelTwoTooWide() {
        for (int a = 215; a <= 216; a++) {
            Watched c = Figures.stretchedGolden(4);
            c.free(2 * a, 1, 0, 1);
            c.meet(8, 9, 0);
            c.line(0, 17);
            c.meet(18, 14, 0);
            c.middle(16, 19);
            c.middle(16, 15);
            x(c, 20, a + "/1 0/1 -2/1 0/1");
            if (a == 215) {
                due(1, "a = 215", () -> c.sign(20, false, 0));
            } else {
                refused(UNSUPPORTED, c, "a = 216", () -> c.sign(20, false, 0));
            }
            due(1, "s, t being the same", () -> c.sign(21, false, 0));
        }
    }

    // "INVERSE .. of (a, b), not 0: with n = a * a - (b * b) * R": for the meeting of lines, n may be TOO WIDE.

    private void inversesTooWide() {
        Watched c = Figures.axis();
        Figures.far(c, 46340);
        Figures.far(c, 46341);
        c.free(1, 1, 1, 1);
        c.circle(6, 0, 11);
        c.circle(10, 0, 11);
        c.meet(2, 12, 1);
        c.meet(2, 13, 1);
        c.free(0, 1, 1, 1);
        c.line(0, 16);
        c.line(16, 14);
        c.line(16, 15);
        due(20, "D = -46340 - root of 2", () -> c.meet(17, 18, 0));
        due(true, "same(20, 16)", () -> c.same(20, 16));
        refused(UNSUPPORTED, c, "D = -46341 - root of 2", () -> c.meet(17, 19, 0));
    }

    // "Two numbers are the same if all their fractions are."

    private void sameNumbers() {
        Watched c = Figures.golden();
        due(false, "another fraction 0 of x", () -> c.same(0, 4));
        due(false, "another fraction 0 of y", () -> c.same(0, 1));
        due(false, "another fraction 1 of y", () -> c.same(3, 7));
        due(false, "another fraction 2 of x", () -> c.same(1, 10));
        c.free(1, 1, 2, 1);
        c.circle(0, 0, 11);
        c.meet(5, 12, 1);
        c.middle(13, 10);
        c.line(7, 14);
        c.line(0, 10);
        c.meet(15, 16, 0);
        x(c, 14, "0/1 0/1 1/2 0/1");
        x(c, 17, "0/1 0/1 1/2 1/1");
        y(c, 14, "1/2 1/1");
        y(c, 17, "1/2 1/1");
        due(false, "another fraction 3 of x", () -> c.same(14, 17));
        due(true, "same(17, 17)", () -> c.same(17, 17));
        c.meet(16, 15, 0);
        due(true, "all fractions the same", () -> c.same(17, 18));
        // "HALF: each fraction in it times 1 / 2."
        due(19, "middle(17, 0)", () -> c.middle(17, 0));
        x(c, 19, "0/1 0/1 1/4 1/2");
        y(c, 19, "1/4 1/2");
    }

    // "ROOT of a number x not below 0: of a fraction: if p and q are squares, the roots of both, else none."

    private void rootsOfFractions() {
        rootIs("2/3", rootOfSquares(2, 3, 0, 1));
        rootIs("5/1", rootOfSquares(3, 1, 4, 1));
        rootIs("1/10000", rootOfSquares(1, 10000, 0, 1));
        rootIs("10000/1", rootOfSquares(10000, 1, 0, 1));
        rootIsNew("2/9", rootOfSquares(1, 3, 1, 3));
        rootIsNew("1/2", rootOfSquares(1, 2, 1, 2));
        rootIsNew("2/1", rootOfSquares(1, 1, 1, 1));
        // 16 times the SQUARE, less E * E: the highest square, and its neighbours.
        Watched c = wideCut(0, 0);
        due(7, "the root of 46340 * 46340", () -> c.meet(2, 6, 1));
        x(c, 7, "11585/1");
        due(0, "look(1)", () -> c.look(1));
        Watched d = wideCut(0, 1);
        due(7, "the root of 46340 * 46340 + 1", () -> d.meet(2, 6, 1));
        x(d, 7, "0/1 1/4");
        radicand(d, 1, "2147395601/1");
        Watched e = wideCut(1, 0);
        due(7, "the root of 46340 * 46340 - 1", () -> e.meet(2, 6, 1));
        x(e, 7, "0/1 1/4");
        radicand(e, 1, "2147395599/1");
    }

    /** 5 is where the line y = 0 is cut by the circle round 0 through (a / b, c / d). */
    private static Watched rootOfSquares(int a, int b, int c, int d) {
        Watched w = Figures.axis();
        w.free(a, b, c, d);
        w.circle(0, 0, 3);
        w.meet(2, 4, 1);
        return w;
    }

    private void rootIs(String root, Watched c) {
        x(c, 5, root);
        due(0, "look(1)", () -> c.look(1));
    }

    private void rootIsNew(String radicand, Watched c) {
        x(c, 5, "0/1 1/1");
        due(1, "look(1)", () -> c.look(1));
        radicand(c, 1, radicand);
    }

    /** The line 2, y = 0, has N = 16; the circle 6 is round (0, up / 4), with 11585 * 11585 + (v / 4) * (v / 4). */
    private static Watched wideCut(int up, int v) {
        Watched c = new Watched();
        c.free(0, 1, 0, 1);
        c.free(4, 1, 0, 1);
        c.line(0, 1);
        c.free(0, 1, up, 4);
        c.free(-5000, 1, 0, 1);
        c.free(6585, 1, v, 4);
        c.circle(3, 4, 5);
        return c;
    }

    // "Of (a, b) with b = 0: if a has a ROOT w, (w, 0); else, if a / R has a ROOT w, (0, w); else none."

    private void rootsOfPairsWithoutB() {
        Watched c = Figures.rootOfTwo();
        cutAxis(c, 2, 0);
        x(c, 9, "2/1 0/1");
        c.undo();
        c.undo();
        c.undo();
        cutAxis(c, 2, 2);
        x(c, 9, "0/1 2/1");
        due(1, "look(1)", () -> c.look(1));
        c.undo();
        c.undo();
        c.undo();
        cutAxis(c, 2, 1);
        x(c, 9, "0/1 0/1 1/1 0/1");
        due(2, "look(1)", () -> c.look(1));
        radicand(c, 2, "5/1 0/1");
    }

    /** For rootOfTwo(): 9 is where the line y = 0 is cut by the circle 8 round 0 through (x, y). */
    private static void cutAxis(Watched c, int x, int y) {
        c.free(x, 1, y, 1);
        c.circle(0, 0, 7);
        c.meet(4, 8, 1);
    }

    // "With b not 0: n is the ROOT of a * a - (b * b) * R; if that is below 0 or has none, none. Else let h be
    // HALF of a + n, and then HALF of a - n: the first of these that is above 0 and has a ROOT w gives
    // (w, b / (w + w)), or the negative of this, if its sign is below 0; without such a one none."

    private void rootsOfPairs() {
        Watched first = aroundRoot(2);
        due(9, "6 + 4 * root of 2: HALF of a + n", () -> first.meet(4, 8, 1));
        x(first, 9, "2/1 1/1");
        Watched second = aroundRoot(1);
        due(9, "3 + 2 * root of 2: HALF of a - n", () -> second.meet(4, 8, 1));
        x(second, 9, "1/1 1/1");
        Watched negative = aroundRoot(-1);
        due(9, "3 - 2 * root of 2: the negative", () -> negative.meet(4, 8, 1));
        x(negative, 9, "-1/1 1/1");
        Watched positive = aroundRoot(-2);
        due(9, "6 - 4 * root of 2: not the negative", () -> positive.meet(4, 8, 1));
        x(positive, 9, "2/1 -1/1");
        due(1, "look(1)", () -> positive.look(1));
        Watched below = aroundRoot(1);
        below.line(3, 2);
        due(10, "2 + 2 * root of 2: 4 - 8 is below 0", () -> below.meet(9, 8, 1));
        radicand(below, 2, "2/1 2/1");
        Watched rootless = aroundRoot(1);
        lineAtHeight(rootless, 1, 3);
        due(12, "26/9 + 2 * root of 2: 28/81 has no ROOT", () -> rootless.meet(11, 8, 1));
        radicand(rootless, 2, "26/9 2/1");
        Watched halfless = aroundRoot(1);
        halfless.free(2, 1, 1, 1);
        halfless.line(0, 9);
        due(11, "15 + 10 * root of 2: neither 10 nor 5 has a ROOT", () -> halfless.meet(10, 8, 1));
        radicand(halfless, 2, "15/1 10/1");
    }

    /** Three objects more, the last of them the line y = p / q. */
    private static int lineAtHeight(Watched c, int p, int q) {
        return c.line(c.free(0, 1, p, q), c.free(1, 1, p, q));
    }

    /** rootOfTwo(), and 8 the circle round 0 with the distance of (-w, 0) and (root of 2, 0). */
    private static Watched aroundRoot(int w) {
        Watched c = Figures.rootOfTwo();
        c.free(-w, 1, 0, 1);
        c.circle(0, 7, 6);
        return c;
    }

    private void rootsOfLevelTwoWithoutB() {
        Watched c = Figures.golden();
        c.line(0, 4);
        due(12, "g * g has the ROOT g", () -> c.meet(11, 8, 1));
        x(c, 12, "1/2 1/1");
        c.circle(0, 1, 10);
        due(14, "g has none, g / R has 1", () -> c.meet(11, 13, 1));
        x(c, 14, "0/1 0/1 1/1 0/1");
        c.circle(0, 0, 4);
        due(16, "1 has the ROOT 1", () -> c.meet(11, 15, 0));
        x(c, 16, "-1/1");
        c.circle(0, 0, 2);
        refused(UNSUPPORTED, c, "2 has none, nor 2 / R", () -> c.meet(11, 17, 1));
    }

    private void rootsOfLevelTwo() {
        Watched first = aroundGolden(2, 1);
        due(14, "4 + g + 4 * root of g: HALF of a + n", () -> first.meet(11, 13, 1));
        x(first, 14, "2/1 0/1 1/1 0/1");
        Watched second = aroundGolden(1, 1);
        due(14, "1 + g + 2 * root of g: HALF of a - n", () -> second.meet(11, 13, 1));
        x(second, 14, "1/1 0/1 1/1 0/1");
        Watched negative = aroundGolden(-1, 1);
        due(14, "1 + g - 2 * root of g: the negative", () -> negative.meet(11, 13, 1));
        x(negative, 14, "-1/1 0/1 1/1 0/1");
        Watched positive = aroundGolden(-2, 1);
        due(14, "4 + g - 4 * root of g: not the negative", () -> positive.meet(11, 13, 1));
        x(positive, 14, "2/1 0/1 -1/1 0/1");
        Watched below = aroundGolden(1, 1);
        refused(UNSUPPORTED, below, "g + 2 * root of g: g * g - 4 * g is below 0", () -> below.meet(9, 13, 1));
        Watched rootless = aroundGolden(1, 0);
        refused(UNSUPPORTED, rootless, "2 + g + 2 * root of g: 5 + g has no ROOT", () -> rootless.meet(11, 13, 1));
        Watched halfless = aroundGolden(1, 1);
        halfless.line(0, 2);
        refused(UNSUPPORTED, halfless, "2 + 2 * g + 4 * root of g: neither 2 * g nor 2 has a ROOT",
                () -> halfless.meet(14, 13, 1));
    }

    /** golden(), 11 the line y = 0, and 13 the circle round 0 with the distance of (-w, y) and (root of g, 1). */
    private static Watched aroundGolden(int w, int y) {
        Watched c = Figures.golden();
        c.line(0, 4);
        c.free(-w, 1, y, 1);
        c.circle(0, 12, 10);
        return c;
    }

    // "To TAKE THE ROOT of x, a number of the level that is the DEPTH: it FAILS if x is below 0."

    private void belowNought() {
        Watched c = height(1, 1);
        due(6, "the root of 0", () -> c.meet(5, 2, 0));
        due(7, "the root of 0", () -> c.meet(5, 2, 1));
        due(true, "same(6, 7)", () -> c.same(6, 7));
        x(c, 6, "0/1");
        y(c, 6, "1/1");
        due(0, "look(1)", () -> c.look(1));
        Watched lower = height(9999, 10000);
        due(6, "the root of 19999/100000000", () -> lower.meet(5, 2, 0));
        radicand(lower, 1, "19999/100000000");
        Watched higher = height(10000, 9999);
        refused(UNSUPPORTED, higher, "a root of what is below 0", () -> higher.meet(5, 2, 0));
        refused(UNSUPPORTED, higher, "a root of what is below 0", () -> higher.meet(2, 5, 1));
        Watched deep = Figures.rootOfTwo();
        deep.line(3, 2);
        deep.circle(6, 0, 1);
        due(9, "the root of 0 at DEPTH 1", () -> deep.meet(7, 8, 1));
        x(deep, 9, "0/1 1/1");
        y(deep, 9, "1/1");
        Watched deepest = Figures.golden();
        deepest.line(0, 4);
        deepest.circle(10, 0, 1);
        due(13, "the root of 0 at DEPTH 2", () -> deepest.meet(11, 12, 0));
        x(deepest, 13, "0/1 0/1 1/1 0/1");
        y(deepest, 13, "0/1");
    }

    /** 2 is the circle round 0 with the SQUARE 1, and 5 the line y = p / q. */
    private static Watched height(int p, int q) {
        Watched c = new Watched();
        c.free(0, 1, 0, 1);
        c.free(1, 1, 0, 1);
        c.circle(0, 0, 1);
        lineAtHeight(c, p, q);
        return c;
    }

    /** The circle's SQUARE is that of root of 2 less 1: the line 12/29 high cuts it, that 29/70 high does not. */
    private void belowNoughtByLittle() {
        Watched lower = aroundRoot(-1);
        lineAtHeight(lower, 12, 29);
        due(12, "the root of 2379/841 - 2 * root of 2", () -> lower.meet(11, 8, 0));
        radicand(lower, 2, "2379/841 -2/1");
        Watched higher = aroundRoot(-1);
        lineAtHeight(higher, 29, 70);
        refused(UNSUPPORTED, higher, "the root of 13859/4900 - 2 * root of 2", () -> higher.meet(11, 8, 0));
    }

    // "Otherwise it FAILS if the DEPTH is 2"

    private void thirdLevel() {
        Watched c = Figures.rootOfTwo();
        c.free(1, 1, 2, 1);
        c.free(2, 1, 3, 1);
        c.circle(0, 0, 7);
        c.circle(0, 0, 8);
        due(1, "DEPTH", () -> c.look(1));
        due(11, "the root of 5", () -> c.meet(4, 9, 1));
        due(2, "DEPTH", () -> c.look(1));
        refused(UNSUPPORTED, c, "the root of 13", () -> c.meet(4, 10, 1));
        refused(UNSUPPORTED, c, "the root of 13", () -> c.meet(10, 4, 0));
        c.free(1, 1, 3, 1);
        c.circle(0, 0, 12);
        due(14, "the root of 10, which is there", () -> c.meet(4, 13, 1));
        x(c, 14, "0/1 0/1 0/1 1/1");
        due(true, "undo()", () -> c.undo());
        c.undo();
        c.undo();
        c.undo();
        due(1, "DEPTH", () -> c.look(1));
        due(11, "the root of 13, in place of that of 5", () -> c.meet(4, 10, 1));
        radicand(c, 2, "13/1 0/1");
    }

    // "else x is the RADICAND of a new level, the DEPTH grows by 1, every coordinate, and every other number of an
    // object, x becomes (x, 0) (a RADICAND stays of its level), and the root is (0, 1)"

    private void newLevel() {
        Watched c = Figures.golden();
        c.undo();
        due(1, "DEPTH", () -> c.look(1));
        String point = c.coordinate(7, true);
        String first = c.radicand(1);
        c.line(4, 7);
        due(11, "meet(9, 8, 1)", () -> c.meet(9, 8, 1));
        due(2, "DEPTH", () -> c.look(1));
        due(point, "y of 7", () -> c.coordinate(7, true));
        due(first, "RADICAND 1", () -> c.radicand(1));
        radicand(c, 2, "1/2 1/1");
        x(c, 11, "0/1 0/1 1/1 0/1");
        due(true, "a line of before, on(7, 10)", () -> c.on(7, 10));
        due(false, "a line of before, on(11, 10)", () -> c.on(11, 10));
        due(true, "a circle of before, on(11, 8)", () -> c.on(11, 8));
        due(2, "lines of before, angle(5, 9)", () -> c.angle(5, 9));
        due(12, "a line of before, meet(10, 5, 0)", () -> c.meet(10, 5, 0));
        due(true, "same(12, 7)", () -> c.same(12, 7));
    }

    // "What is TOO WIDE on the way, also in a SIGN or in a ROOT of which another one would be tried next, FAILS, too."

    /** SQUAREs of 46340 - 5136 * root of 2, and of 46341 - 7668 * root of 2, whose SIGN has the square of 46341. */
    private void rootTooWide() {
        Watched c = squareOfPair(12, 214, 16);
        due(12, "a * a = 46340 * 46340", () -> c.meet(4, 11, 1));
        radicand(c, 2, "46340/1 -5136/1");
        Watched d = squareOfPair(18, 213, 18);
        refused(UNSUPPORTED, d, "a * a = 46341 * 46341", () -> d.meet(4, 11, 1));
        due(1, "DEPTH", () -> d.look(1));
    }

    /** rootOfTwo(), and 11 the circle round 0 with the distance of (b * root of 2, 0) and (a, v). */
    private static Watched squareOfPair(int b, int a, int v) {
        Watched c = Figures.rootOfTwo();
        c.free(b, 1, b, 1);
        c.circle(0, 0, 7);
        c.meet(4, 8, 1);
        c.free(a, 1, v, 1);
        c.circle(0, 9, 10);
        return c;
    }

    /** With R = 5 / 4, a / R has the p 4 * a. Neither a has a ROOT, so that a level is added, unless a / R is TOO WIDE. */
    private void rootTooWideByDivision() {
        Watched c = squareAtDepthOne(13107, 19107);
        due(11, "536870898 / R", () -> c.meet(5, 10, 1));
        radicand(c, 2, "536870898/1 0/1");
        Watched d = squareAtDepthOne(16384, 16384);
        refused(UNSUPPORTED, d, "536870912 / R", () -> d.meet(5, 10, 1));
        due(1, "DEPTH", () -> d.look(1));
    }

    /** The first eight objects of golden(), and 10 the circle round 0 with the SQUARE u * u + v * v. */
    private static Watched squareAtDepthOne(int u, int v) {
        Watched c = Figures.golden();
        c.undo();
        c.undo();
        c.undo();
        c.free(-10000, 1, -10000, 1);
        c.free(u - 10000, 1, v - 10000, 1);
        c.circle(0, 8, 9);
        return c;
    }

    /** h * h * g has no ROOT at level 1, and what tells so is TOO WIDE from 203 on; divided by R it would have one. */
    private void rootTooWideBeforeTheNext() {
        Watched c = Figures.stretchedGolden(202);
        c.circle(0, 12, 15);
        c.line(0, 4);
        due(18, "h = 202", () -> c.meet(17, 16, 1));
        x(c, 18, "0/1 0/1 202/1 0/1");
        Watched d = Figures.stretchedGolden(203);
        d.circle(0, 12, 15);
        d.line(0, 4);
        refused(UNSUPPORTED, d, "h = 203", () -> d.meet(17, 16, 1));
    }

    /**
     * The root is w + r, and the first HALF is r * r, which has no ROOT at level 1. What tells so has the square of
     * its q, 4 * s * s, and is TOO WIDE from s = 108 on. The second HALF, w * w, would give the root.
     */
    private void firstHalfTooWide() {
        Watched c = Figures.rootOfTwo();
        addHalves(c, 107, 390, 379, 107, 153);
        radicand(c, 2, "511/11449 2/1");
        due(16, "q = 45796", () -> c.meet(4, 15, 1));
        x(c, 16, "153/214 0/1 1/2 0/1");
        Watched d = Figures.rootOfTwo();
        addHalves(d, 108, 228, 133, 216, 155);
        radicand(d, 2, "697/11664 2/1");
        refused(UNSUPPORTED, d, "q = 46656", () -> d.meet(4, 15, 1));
    }

    /**
     * For rootOfTwo(): 13 is (r, 0), where r * r is 3/4 + 1/2 * root of 2 + (v * v - e * e) / (parts * parts); 15 is the
     * circle round 0 with the SQUARE of w + r, w being m / (2 * s).
     */
    private static void addHalves(Watched c, int s, int e, int v, int parts, int m) {
        c.free(2, 1, 0, 1);
        c.line(0, 7);
        c.free(0, 1, e, parts);
        c.middle(0, 6);
        c.free(-1, 2, -v, parts);
        c.circle(9, 11, 10);
        c.meet(8, 12, 1);
        c.free(-m, 2 * s, 0, 1);
        c.circle(0, 14, 13);
    }

    /** The root is found to be (1/10, -10 * t) or its negative: which of them, the square of 10 * t tells. */
    private void rootTooWideInItsSign() {
        Watched c = rootWithSign(4634, 1);
        due(13, "the root is (1/10, -46340)", () -> c.meet(12, 10, 1));
        x(c, 13, "-1/10 46340/1");
        Watched d = rootWithSign(4635, 1);
        refused(UNSUPPORTED, d, "the root is (1/10, -46350)", () -> d.meet(12, 10, 1));
        Watched e = rootWithSign(4635, -1);
        due(13, "the root is (1/10, 46350), with nothing to be told", () -> e.meet(12, 10, 1));
        x(e, 13, "1/10 46350/1");
    }

    /**
     * The RADICAND is 2 / (25 * t * t), 8 is (8 * t * its root, 6 * t * its root); 12 is the line y = 0, and 10
     * the circle round 0 with the SQUARE 801/100 - turn * 2 * t * root.
     */
    private static Watched rootWithSign(int t, int turn) {
        Watched c = new Watched();
        c.free(0, 1, 0, 1);
        c.free(4, 25, 3, 25);
        c.free(1, t, 1, t);
        c.free(2, 1, 2, 1);
        c.line(0, 1);
        c.circle(0, 0, 2);
        c.circle(0, 0, 3);
        c.meet(4, 5, 1);
        c.meet(4, 6, 1);
        c.free(turn * 2, 25, turn * 3, 50);
        c.circle(0, 8, 9);
        c.free(1, 1, 0, 1);
        c.line(0, 11);
        return c;
    }

    // "OBJECTS are numbered 0, 1, .., at most 24"

    private void atMost24() {
        Watched free = Figures.oneShort();
        due(23, "free() as the last", () -> free.free(1, 1, 1, 1));
        refused(STATE, free, "free() as one more", () -> free.free(1, 1, 1, 1));
        Watched line = Figures.oneShort();
        due(23, "line() as the last", () -> line.line(0, 2));
        refused(STATE, line, "line() as one more", () -> line.line(0, 2));
        Watched circle = Figures.oneShort();
        due(23, "circle() as the last", () -> circle.circle(0, 1, 2));
        refused(STATE, circle, "circle() as one more", () -> circle.circle(0, 1, 2));
        Watched middle = Figures.oneShort();
        due(23, "middle() as the last", () -> middle.middle(0, 1));
        refused(STATE, middle, "middle() as one more", () -> middle.middle(0, 1));
        Watched meet = Figures.oneShort();
        due(23, "meet() as the last", () -> meet.meet(4, 5, 1));
        due(1, "DEPTH", () -> meet.look(1));
        refused(STATE, meet, "meet() as one more", () -> meet.meet(4, 5, 1));
        due(true, "undo()", () -> meet.undo());
        due(23, "meet() as the last again", () -> meet.meet(4, 5, 0));
        due(24, "look(0)", () -> meet.look(0));
    }

    // "LINE through points p, q: FAILS if they are the same"

    private void linesThatFail() {
        Watched c = Figures.rootOfTwo();
        c.meet(5, 4, 1);
        c.free(9999, 10000, 0, 1);
        c.free(1, 1, 1, 10000);
        c.free(10000, 10000, 0, 10000);
        refused(UNSUPPORTED, c, "one point twice", () -> c.line(0, 0));
        refused(UNSUPPORTED, c, "points at one place", () -> c.line(1, 10));
        refused(UNSUPPORTED, c, "points at one place, at DEPTH 1", () -> c.line(6, 7));
        due(11, "another x alone", () -> c.line(1, 8));
        due(12, "another y alone", () -> c.line(1, 9));
        due(13, "another fraction 1 of x alone", () -> c.line(0, 6));
    }

    // "CIRCLE with the CENTRE c, and p, q: .. FAILS if it is 0."

    private void circlesThatFail() {
        Watched c = Figures.rootOfTwo();
        c.meet(5, 4, 1);
        c.free(9999, 10000, 0, 1);
        c.free(1, 1, 1, 10000);
        c.free(10000, 10000, 0, 10000);
        refused(UNSUPPORTED, c, "one point twice", () -> c.circle(0, 1, 1));
        refused(UNSUPPORTED, c, "one point three times", () -> c.circle(1, 1, 1));
        refused(UNSUPPORTED, c, "points at one place", () -> c.circle(0, 1, 10));
        refused(UNSUPPORTED, c, "points at one place, at DEPTH 1", () -> c.circle(0, 7, 6));
        due(11, "a SQUARE of 1/100000000, by x", () -> c.circle(1, 1, 8));
        due(true, "on(8, 11)", () -> c.on(8, 11));
        due(12, "a SQUARE of 1/100000000, by y", () -> c.circle(0, 1, 9));
        due(13, "a SQUARE of 2, by the root of 2", () -> c.circle(0, 0, 6));
        due(true, "on(2, 13)", () -> c.on(2, 13));
    }

    // "MEETING of lines a, b: D is a.A * b.B - b.A * a.B; FAILS if it is 0"

    private void meetingsOfLinesThatFail() {
        Watched c = Figures.axis();
        c.free(0, 1, 1, 1);
        c.free(10000, 1, 9999, 10000);
        c.free(10000, 1, 1, 1);
        c.line(3, 4);
        c.line(3, 5);
        c.line(1, 0);
        due(9, "D = 1/10000", () -> c.meet(2, 6, 0));
        x(c, 9, "100000000/1");
        y(c, 9, "0/1");
        refused(UNSUPPORTED, c, "parallel lines", () -> c.meet(2, 7, 0));
        refused(UNSUPPORTED, c, "parallel lines", () -> c.meet(7, 2, 0));
        refused(UNSUPPORTED, c, "lines at one place", () -> c.meet(2, 8, 0));
        Watched d = Figures.rootOfTwo();
        d.meet(4, 5, 0);
        d.free(0, 1, -1, 1);
        d.line(3, 6);
        d.line(7, 8);
        due(1, "angle(9, 10)", () -> d.angle(9, 10));
        refused(UNSUPPORTED, d, "parallel lines at DEPTH 1", () -> d.meet(9, 10, 0));
        d.free(0, 1, -9999, 10000);
        d.line(7, 11);
        due(0, "angle(9, 12)", () -> d.angle(9, 12));
        due(13, "lines that are not quite parallel", () -> d.meet(9, 12, 0));
    }

    // "Of circles a, b: .. FAILS if A and B are 0."

    private void meetingsOfCirclesThatFail() {
        Watched c = Figures.axis();
        c.free(0, 1, 1, 1);
        c.free(0, 5, 0, 5);
        c.circle(0, 0, 1);
        c.circle(1, 0, 1);
        c.circle(3, 0, 1);
        c.circle(4, 0, 1);
        c.circle(0, 1, 3);
        refused(UNSUPPORTED, c, "one centre, other SQUAREs", () -> c.meet(5, 9, 0));
        refused(UNSUPPORTED, c, "centres at one place", () -> c.meet(5, 8, 0));
        refused(UNSUPPORTED, c, "centres at one place", () -> c.meet(8, 9, 1));
        due(10, "B is 0 alone", () -> c.meet(5, 6, 1));
        due(11, "A is 0 alone", () -> c.meet(5, 7, 1));
        due(12, "neither is 0", () -> c.meet(6, 7, 1));
        touchingCircles();
    }

    // "Of circles a, b: that of a line .. with the circle a": its SQUARE * N fits, that of b is TOO WIDE.

    private void firstOfTwoCircles() {
        Watched c = new Watched();
        c.free(0, 1, 0, 1);
        c.free(160, 1, 0, 1);
        c.free(0, 1, 5, 1);
        c.circle(0, 0, 2);
        c.circle(1, 1, 2);
        due(5, "25 * 102400", () -> c.meet(3, 4, 0));
        y(c, 5, "-5/1");
        refused(UNSUPPORTED, c, "25625 * 102400", () -> c.meet(4, 3, 0));
    }

    private void touchingCircles() {
        Watched c = Figures.axis();
        c.free(3, 1, 0, 1);
        c.free(2, 1, 0, 1);
        c.free(9, 10, 0, 1);
        c.free(11, 10, 0, 1);
        c.circle(3, 0, 4);
        for (int centre = 0; centre <= 4; centre += 4) {
            c.circle(centre, 0, 1);
            c.circle(centre, 0, 5);
            c.circle(centre, 0, 6);
        }
        due(14, "circles that touch", () -> c.meet(8, 7, 0));
        due(true, "same(14, 1)", () -> c.same(14, 1));
        refused(UNSUPPORTED, c, "circles apart", () -> c.meet(9, 7, 0));
        due(15, "circles that touch, one in the other", () -> c.meet(11, 7, 1));
        due(true, "same(15, 1)", () -> c.same(15, 1));
        refused(UNSUPPORTED, c, "a circle in the other", () -> c.meet(12, 7, 1));
        refused(UNSUPPORTED, c, "a circle round the other", () -> c.meet(7, 12, 0));
        due(0, "DEPTH", () -> c.look(1));
        due(16, "circles that cross", () -> c.meet(10, 7, 0));
        due(17, "circles that cross", () -> c.meet(13, 7, 0));
    }

    // "To REDRAW is to have DEPTH 0, and to make all objects anew, from the first one on."

    private void redrawing() {
        Watched c = new Watched();
        c.free(0, 1, 0, 1);
        c.free(1, 1, 0, 1);
        c.free(1, 1, 1, 1);
        c.free(1, 1, 2, 1);
        c.line(0, 1);
        c.circle(0, 0, 2);
        c.circle(0, 0, 3);
        c.meet(4, 5, 1);
        c.meet(4, 6, 1);
        x(c, 8, "0/1 0/1 1/1 0/1");
        due(-1, "5 gets the SQUARE 25", () -> c.move(2, 3, 1, 4, 1));
        x(c, 7, "5/1");
        x(c, 8, "0/1 1/1");
        due(1, "DEPTH", () -> c.look(1));
        radicand(c, 1, "5/1");
        due(-1, "5 gets the SQUARE 5", () -> c.move(2, 2, 1, 1, 1));
        due(true, "same(7, 8)", () -> c.same(7, 8));
        due(1, "DEPTH", () -> c.look(1));
        due(-1, "5 gets the SQUARE 10", () -> c.move(2, 3, 1, 1, 1));
        radicand(c, 1, "10/1");
        radicand(c, 2, "5/1");
        due(-1, "5 gets the SQUARE 2 again", () -> c.move(2, 1, 1, 1, 1));
        radicand(c, 1, "2/1");
        due(true, "undo()", () -> c.undo());
        due(1, "DEPTH", () -> c.look(1));
        due(true, "undo()", () -> c.undo());
        due(0, "DEPTH", () -> c.look(1));
    }

    // "A call that has to make something that FAILS throws UnsupportedOperationException, as does a question with
    // something TOO WIDE." (on(), equal() and sign(): widestProducts(), widestSquares() and widestDifferences())

    private void questionsTooWide() {
        Watched c = Figures.axis();
        Figures.far(c, 1073741824);
        c.free(0, 1, 1, 1);
        c.free(0, 1, 2, 1);
        c.free(0, 1, -2, 1);
        due(1, "side() with 1073741824", () -> c.side(0, 6, 7));
        refused(UNSUPPORTED, c, "side() with 2147483648", () -> c.side(0, 6, 8));
        refused(UNSUPPORTED, c, "side() with -2147483648", () -> c.side(0, 6, 9));
        c.line(0, 6);
        c.line(0, 7);
        c.line(0, 8);
        due(2, "angle() with 1073741824", () -> c.angle(10, 11));
        refused(UNSUPPORTED, c, "angle() with b.A * a.B = -2147483648", () -> c.angle(10, 12));
        refused(UNSUPPORTED, c, "angle() with a.A * b.B = -2147483648", () -> c.angle(12, 10));
        c.free(1, 1, 1, 1);
        c.free(2, 1, 1, 1);
        c.line(0, 13);
        c.line(0, 14);
        due(0, "angle() with 1073741824", () -> c.angle(10, 15));
        refused(UNSUPPORTED, c, "angle() with a.B * b.B = 2147483648", () -> c.angle(10, 16));
        due(1, "this is worked out only if they are not parallel", () -> c.angle(10, 10));
    }

    // "Of several exceptions the one listed first is thrown."

    private void severalExceptions() {
        Watched c = Figures.axis();
        Figures.far(c, 2147483647);
        c.line(1, 0);
        c.circle(0, 0, 1);
        c.circle(0, 1, 0);
        refused(ARGUMENT, c, "no such meeting, of parallel lines", () -> c.meet(2, 7, 1));
        refused(ARGUMENT, c, "no such meeting, of circles round one centre", () -> c.meet(8, 9, 2));
        refused(ARGUMENT, c, "equal() of no point", () -> c.equal(0, 6, 0, 10));
        refused(ARGUMENT, c, "side() of no point", () -> c.side(10, 6, 6));
        refused(ARGUMENT, c, "on() of no line", () -> c.on(6, 10));
        refused(ARGUMENT, c, "sign() of an n out of range", () -> c.sign(6, false, -1000001));
        for (int o = 10; o < 24; o++) {
            c.free(1, o, 1, 1);
        }
        refused(STATE, c, "line(0, 0)", () -> c.line(0, 0));
        refused(STATE, c, "circle(0, 1, 1)", () -> c.circle(0, 1, 1));
        refused(STATE, c, "middle(6, 1)", () -> c.middle(6, 1));
        refused(STATE, c, "meet(2, 7, 0)", () -> c.meet(2, 7, 0));
        refused(STATE, c, "meet(8, 9, 1)", () -> c.meet(8, 9, 1));
        refused(ARGUMENT, c, "free(0, 0, 0, 1)", () -> c.free(0, 0, 0, 1));
        refused(ARGUMENT, c, "line(2, 2)", () -> c.line(2, 2));
        refused(ARGUMENT, c, "circle(8, 1, 1)", () -> c.circle(8, 1, 1));
        refused(ARGUMENT, c, "middle(6, 24)", () -> c.middle(6, 24));
        refused(ARGUMENT, c, "meet(2, 7, 1)", () -> c.meet(2, 7, 1));
        refused(ARGUMENT, c, "meet(8, 8, 0)", () -> c.meet(8, 8, 0));
        c.undo();
        refused(UNSUPPORTED, c, "line(0, 0)", () -> c.line(0, 0));
        refused(UNSUPPORTED, c, "circle(0, 1, 1)", () -> c.circle(0, 1, 1));
        refused(UNSUPPORTED, c, "middle(6, 1)", () -> c.middle(6, 1));
        refused(UNSUPPORTED, c, "meet(2, 7, 0)", () -> c.meet(2, 7, 0));
        refused(UNSUPPORTED, c, "meet(8, 9, 1)", () -> c.meet(8, 9, 1));
    }

    // "An object is used for at most 512 calls after it has been made"

    private void lastCall() {
        Watched c = Figures.rootOfTwo();
        while (c.callsLeft() > 2) {
            due(6, "undo() and meet(4, 5, 1)", () -> {
                c.undo();
                return c.meet(4, 5, 1);
            });
            if (c.callsLeft() == 3) {
                c.look(0);
            }
        }
        due(true, "the 511th call", () -> c.undo());
        due(6, "the 512th call", () -> c.meet(4, 5, 0));
        due(0, "calls left", () -> c.callsLeft());
    }
}
