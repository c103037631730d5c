/** Each promise by itself with ordinary inputs; its boundaries are in EdgeTest and TermsTest. */
public final class PromiseTest extends Cases {
    private PromiseTest() {
        super("PromiseTest");
    }

    public static void main(String[] args) {
        PromiseTest test = new PromiseTest();
        test.readme();
        test.newObject();
        test.free();
        test.line();
        test.circle();
        test.middle();
        test.meetLines();
        test.meetLineAndCircle();
        test.meetCircles();
        test.roots();
        test.levels();
        test.tooWide();
        test.widest();
        test.afterTooWide();
        test.move();
        test.moveThatFails();
        test.undo();
        test.on();
        test.same();
        test.equal();
        test.angle();
        test.side();
        test.sign();
        test.part();
        test.radicand();
        test.kind();
        test.look();
        test.end();
    }

    /** The example of README.md, and what stands behind its calls there. */
    private void readme() {
        Watched c = new Watched();
        int o = c.free(0, 1, 0, 1);
        int p = c.free(1, 1, 0, 1);
        int a = c.circle(o, o, p);
        int b = c.circle(p, o, p);
        int top = c.meet(a, b, 1);
        x(c, top, "1/2");
        y(c, top, "0/1 1/2");
        due(true, "equal(o, top, p, top)", () -> c.equal(o, top, p, top));
        due(1, "look(1)", () -> c.look(1));
        due(3, "radicand(1, 0, false)", () -> c.radicand(1, 0, false));
        due(2, "part(top, true, 1, true)", () -> c.part(top, true, 1, true));
        due(-1, "move(p, 2, 1, 0, 1)", () -> c.move(p, 2, 1, 0, 1));
        due(48, "radicand(1, 0, false)", () -> c.radicand(1, 0, false));
        x(c, top, "1/1");
        y(c, top, "0/1 1/4");
        due(true, "undo()", () -> c.undo());
        due(0, "look(1)", () -> c.look(1));
    }

    private void newObject() {
        Watched c = new Watched();
        due(-1, "NONE", () -> RootCompass.NONE);
        due(0, "look(0)", () -> c.look(0));
        due(0, "look(1)", () -> c.look(1));
        due(0, "look(2)", () -> c.look(2));
        due(-1, "kind(0)", () -> c.kind(0));
        due(false, "undo()", () -> c.undo());
        due(INDEX, "radicand(1, 0, false)", () -> c.radicand(1, 0, false));
        due(0, "free(1, 1, 1, 1)", () -> c.free(1, 1, 1, 1));
        Watched other = new Watched();
        due(0, "look(0) of another one", () -> other.look(0));
    }

    private void free() {
        Watched c = new Watched();
        due(0, "free(6, 4, -10, 15)", () -> c.free(6, 4, -10, 15));
        x(c, 0, "3/2");
        y(c, 0, "-2/3");
        due(1, "free(0, 7, 10000, 10000)", () -> c.free(0, 7, 10000, 10000));
        x(c, 1, "0/1");
        y(c, 1, "1/1");
        due(2, "free(-10000, 1, 10000, 9999)", () -> c.free(-10000, 1, 10000, 9999));
        x(c, 2, "-10000/1");
        y(c, 2, "10000/9999");
        due(3, "free(10000, 1, -10000, 10000)", () -> c.free(10000, 1, -10000, 10000));
        due(4, "the same point again", () -> c.free(10000, 1, -10000, 10000));
        while (c.look(0) < 23) {
            c.free(1, 1, 1, 1);
        }
        due(23, "the last free point", () -> c.free(1, 2, 1, 2));
        refused(STATE, c, "a 25th object", () -> c.free(1, 2, 1, 2));
        Watched deep = Figures.rootOfTwo();
        deep.free(1, 3, 5, 1);
        x(deep, 7, "1/3");
    }

    private void line() {
        Watched c = Figures.unitSquare();
        due(6, "line(0, 2)", () -> c.line(0, 2));
        due(1, "kind(6)", () -> c.kind(6));
        due(true, "on(2, 6)", () -> c.on(2, 6));
        due(false, "on(1, 6)", () -> c.on(1, 6));
        due(7, "the same line again", () -> c.line(0, 2));
        due(8, "line(2, 0)", () -> c.line(2, 0));
        refused(UNSUPPORTED, c, "line(1, 1)", () -> c.line(1, 1));
        c.free(2, 2, 0, 5);
        refused(UNSUPPORTED, c, "the line through two points at one place", () -> c.line(1, 9));
        Watched wide = new Watched();
        wide.free(1, 9999, 0, 1);
        wide.free(1, 9998, 1, 9973);
        // A * p.x is 1 / 9973 * 1 / 9999, B * p.y is 0: C fits. From the other end B * p.y has q = 9999 * 9998 * 9973.
        due(2, "line(0, 1)", () -> wide.line(0, 1));
        refused(UNSUPPORTED, wide, "line(1, 0)", () -> wide.line(1, 0));
    }

    private void circle() {
        Watched c = Figures.unitSquare();
        due(6, "circle(1, 0, 3)", () -> c.circle(1, 0, 3));
        due(2, "kind(6)", () -> c.kind(6));
        due(true, "on(0, 6)", () -> c.on(0, 6));
        due(true, "on(2, 6)", () -> c.on(2, 6));
        due(false, "on(3, 6)", () -> c.on(3, 6));
        due(false, "the centre on(1, 6)", () -> c.on(1, 6));
        refused(UNSUPPORTED, c, "circle(0, 1, 1)", () -> c.circle(0, 1, 1));
        Watched wide = new Watched();
        wide.free(1, 140, 0, 1);
        wide.free(1, 331, 0, 1);
        wide.free(1, 171, 0, 1);
        wide.free(1, 271, 0, 1);
        due(4, "a SQUARE with q = 46340 * 46340", () -> wide.circle(2, 0, 1));
        refused(UNSUPPORTED, wide, "a SQUARE with q = 46341 * 46341", () -> wide.circle(0, 2, 3));
    }

    private void middle() {
        Watched c = new Watched();
        c.free(1, 2, -1, 1);
        c.free(1, 3, 4, 1);
        due(2, "middle(0, 1)", () -> c.middle(0, 1));
        x(c, 2, "5/12");
        y(c, 2, "3/2");
        due(3, "middle(0, 0)", () -> c.middle(0, 0));
        due(true, "same(0, 3)", () -> c.same(0, 3));
        c.line(0, 1);
        Watched deep = Figures.rootOfTwo();
        due(7, "middle(1, 6)", () -> deep.middle(1, 6));
        x(deep, 7, "1/2 1/2");
        Watched far = Figures.farOff(10000);
        refused(UNSUPPORTED, far, "the middle whose sum is too wide", () -> far.middle(6, 6));
        due(7, "middle(0, 6)", () -> far.middle(0, 6));
        x(far, 7, "1073500000/1");
    }

    private void meetLines() {
        Watched c = new Watched();
        c.free(0, 1, 0, 1);
        c.free(2, 1, 1, 1);
        c.free(0, 1, 1, 1);
        c.free(1, 1, 0, 1);
        c.line(0, 1);
        c.line(2, 3);
        due(6, "meet(4, 5, 0)", () -> c.meet(4, 5, 0));
        x(c, 6, "2/3");
        y(c, 6, "1/3");
        due(7, "meet(5, 4, 0)", () -> c.meet(5, 4, 0));
        due(true, "same(6, 7)", () -> c.same(6, 7));
        refused(ARGUMENT, c, "meet(4, 5, 1)", () -> c.meet(4, 5, 1));
        refused(ARGUMENT, c, "meet(4, 5, -1)", () -> c.meet(4, 5, -1));
        c.line(1, 0);
        refused(UNSUPPORTED, c, "one line twice", () -> c.meet(4, 8, 0));
        c.free(2, 1, 2, 1);
        c.line(2, 9);
        due(1, "angle(4, 10)", () -> c.angle(4, 10));
        refused(UNSUPPORTED, c, "parallel lines", () -> c.meet(4, 10, 0));
        Watched far = Figures.farOff(10000);
        x(far, 6, "2147000000/1");
        y(far, 6, "0/1");
    }

    private void meetLineAndCircle() {
        Watched c = new Watched();
        c.free(0, 1, 0, 1);
        c.free(5, 1, 0, 1);
        c.free(0, 1, 3, 1);
        c.free(1, 1, 3, 1);
        c.line(2, 3);
        c.circle(0, 0, 1);
        // A is 0 and B is -1: less B's negative is to the left.
        due(6, "meet(4, 5, 0)", () -> c.meet(4, 5, 0));
        x(c, 6, "-4/1");
        y(c, 6, "3/1");
        due(7, "meet(4, 5, 1)", () -> c.meet(4, 5, 1));
        x(c, 7, "4/1");
        y(c, 7, "3/1");
        due(8, "meet(5, 4, 0)", () -> c.meet(5, 4, 0));
        due(true, "the order does not matter", () -> c.same(6, 8));
        due(9, "meet(5, 4, 1)", () -> c.meet(5, 4, 1));
        due(true, "the order does not matter", () -> c.same(7, 9));
        due(0, "look(1)", () -> c.look(1));
        c.line(3, 2);
        due(11, "meet(10, 5, 0), the other way along", () -> c.meet(10, 5, 0));
        due(true, "same(11, 7)", () -> c.same(11, 7));
        c.free(5, 1, 1, 1);
        c.line(1, 12);
        due(14, "a tangent", () -> c.meet(13, 5, 0));
        due(15, "a tangent", () -> c.meet(13, 5, 1));
        due(true, "same(14, 15)", () -> c.same(14, 15));
        due(true, "same(14, 1)", () -> c.same(14, 1));
        c.free(6, 1, 0, 1);
        c.free(6, 1, 1, 1);
        c.line(16, 17);
        refused(UNSUPPORTED, c, "a line that passes by", () -> c.meet(18, 5, 0));
        // x + y = 7 and the circle round (0, 0) with 5: (3, 4) and (4, 3); A is -3, B is -3.
        c.free(7, 1, 0, 1);
        c.free(10, 1, -3, 1);
        c.line(19, 20);
        due(22, "meet(5, 21, 0)", () -> c.meet(5, 21, 0));
        x(c, 22, "3/1");
        y(c, 22, "4/1");
        due(23, "meet(5, 21, 1)", () -> c.meet(5, 21, 1));
        x(c, 23, "4/1");
        y(c, 23, "3/1");
    }

    private void meetCircles() {
        Watched c = new Watched();
        c.free(0, 1, 0, 1);
        c.free(6, 1, 0, 1);
        c.free(5, 1, 0, 1);
        c.circle(0, 0, 2);
        c.circle(1, 0, 2);
        due(5, "meet(3, 4, 0)", () -> c.meet(3, 4, 0));
        x(c, 5, "3/1");
        y(c, 5, "-4/1");
        due(6, "meet(3, 4, 1)", () -> c.meet(3, 4, 1));
        x(c, 6, "3/1");
        y(c, 6, "4/1");
        due(7, "meet(4, 3, 0)", () -> c.meet(4, 3, 0));
        due(true, "the other circle first turns the meetings round", () -> c.same(7, 6));
        c.circle(0, 0, 1);
        refused(UNSUPPORTED, c, "circles round one centre", () -> c.meet(3, 8, 0));
        c.circle(0, 0, 2);
        refused(UNSUPPORTED, c, "one circle twice", () -> c.meet(3, 9, 1));
        c.free(100, 1, 0, 1);
        c.circle(10, 0, 1);
        refused(UNSUPPORTED, c, "circles apart", () -> c.meet(3, 11, 0));
        c.free(1, 1, 0, 1);
        c.circle(1, 0, 12);
        due(14, "circles that touch", () -> c.meet(3, 13, 0));
        due(true, "same(14, 2)", () -> c.same(14, 2));
        // Squares 25 and 4 round (0, 0) and (0, 4): y is 37/8, and both differ in size and place.
        c.free(0, 1, 4, 1);
        c.free(0, 1, 6, 1);
        c.circle(15, 15, 16);
        due(18, "meet(3, 17, 1)", () -> c.meet(3, 17, 1));
        y(c, 18, "37/8");
        due(true, "on(18, 3)", () -> c.on(18, 3));
        due(true, "on(18, 17)", () -> c.on(18, 17));
        due(-1, "sign(18, false, 0)", () -> c.sign(18, false, 0));
        // Squares 25 round (1, 2) and (1, 10), off the axes; B is 16, so less its negative is to the right.
        c.free(1, 1, 2, 1);
        c.free(1, 1, 10, 1);
        c.circle(19, 0, 2);
        c.circle(20, 0, 2);
        due(23, "meet(21, 22, 0)", () -> c.meet(21, 22, 0));
        x(c, 23, "4/1");
        y(c, 23, "6/1");
    }

    /** Roots that are found at DEPTH 1, so that no level is added. */
    private void roots() {
        Watched c = Figures.rootOfTwo();
        x(c, 6, "0/1 1/1");
        c.circle(1, 0, 6);
        due(8, "meet(4, 7, 1): 2 / R has the root 1", () -> c.meet(4, 7, 1));
        x(c, 8, "1/1 1/1");
        due(9, "meet(4, 7, 0)", () -> c.meet(4, 7, 0));
        x(c, 9, "1/1 -1/1");
        c.circle(0, 0, 8);
        due(11, "the root of 3 + 2 * that of 2, by the second half", () -> c.meet(4, 10, 1));
        x(c, 11, "1/1 1/1");
        c.circle(0, 0, 9);
        due(13, "the root of 3 - 2 * that of 2, a negative", () -> c.meet(4, 12, 1));
        x(c, 13, "-1/1 1/1");
        c.free(2, 1, 0, 1);
        c.circle(14, 0, 6);
        c.meet(4, 15, 1);
        x(c, 16, "2/1 1/1");
        c.circle(0, 0, 16);
        due(18, "the root of 6 + 4 * that of 2, by the first half", () -> c.meet(4, 17, 0));
        x(c, 18, "-2/1 -1/1");
        due(19, "the root of 6 + 4 * that of 2, by the first half", () -> c.meet(4, 17, 1));
        x(c, 19, "2/1 1/1");
        c.circle(0, 0, 14);
        due(21, "a square's root, with b = 0", () -> c.meet(4, 20, 1));
        x(c, 21, "2/1 0/1");
        due(1, "look(1)", () -> c.look(1));
        due("2/1 0/1 0/1 0/1", "radicand 1", () -> c.radicand(1));
    }

    private void levels() {
        Watched c = Figures.golden();
        due(11, "look(0)", () -> c.look(0));
        due(2, "look(1)", () -> c.look(1));
        due("5/4 0/1 0/1 0/1", "radicand 1", () -> c.radicand(1));
        due("1/2 1/1 0/1 0/1", "radicand 2", () -> c.radicand(2));
        x(c, 7, "0/1");
        y(c, 7, "1/2 1/1");
        x(c, 10, "0/1 0/1 1/1 0/1");
        y(c, 10, "1/1");
        due(true, "on(10, 8)", () -> c.on(10, 8));
        due(true, "on(10, 9)", () -> c.on(10, 9));
        due(11, "a root that is there at DEPTH 2", () -> c.meet(8, 9, 0));
        x(c, 11, "0/1 0/1 -1/1 0/1");
        due(2, "look(1)", () -> c.look(1));
        // y = 1 is cut at a distance whose square is 1, by the circle round 1 with 1.
        c.circle(1, 0, 1);
        due(13, "meet(9, 12, 1)", () -> c.meet(9, 12, 1));
        x(c, 13, "1/1");
        // Its square is 2: no root, and a third level there is not.
        c.circle(1, 0, 2);
        refused(UNSUPPORTED, c, "a third level", () -> c.meet(9, 14, 1));
        due(15, "middle(10, 13)", () -> c.middle(10, 13));
        x(c, 15, "1/2 0/1 1/2 0/1");
        due(16, "line(0, 10)", () -> c.line(0, 10));
        due(17, "meet(16, 5, 0)", () -> c.meet(16, 5, 0));
        due(true, "same(17, 0)", () -> c.same(17, 0));
    }

    private void tooWide() {
        Watched right = Figures.farOff(10000);
        due(1, "sign of 2147483647", () -> right.sign(6, false, -483647));
        refused(UNSUPPORTED, right, "sign of 2147483648", () -> right.sign(6, false, -483648));
        Watched left = Figures.farOff(-10000);
        due(-1, "sign of -2147483647", () -> left.sign(6, false, 483647));
        refused(UNSUPPORTED, left, "sign of -2147483648", () -> left.sign(6, false, 483648));
        refused(UNSUPPORTED, right, "a SQUARE too wide", () -> right.circle(0, 0, 6));
        refused(UNSUPPORTED, right, "equal() too wide", () -> right.equal(0, 6, 0, 6));
        due(8, "a circle round a far point", () -> {
            right.circle(6, 0, 1);
            return right.look(0);
        });
        refused(UNSUPPORTED, right, "on() too wide", () -> right.on(0, 7));
        due(false, "on(6, 7)", () -> right.on(6, 7));
        right.free(0, 1, 1, 1);
        right.free(0, 1, 2, 1);
        due(1, "side(0, 6, 8)", () -> right.side(0, 6, 8));
        refused(UNSUPPORTED, right, "side() too wide", () -> right.side(0, 6, 9));
        due(0, "side(6, 6, 9)", () -> right.side(6, 6, 9));
        // The DEPTH has grown when the point turns out to be too wide: it is as before again.
        Watched c = new Watched();
        c.free(0, 1, 0, 1);
        c.free(1, 9973, 1, 9967);
        c.free(1, 9949, 0, 1);
        c.free(0, 1, 1, 1);
        c.circle(1, 0, 3);
        c.line(0, 2);
        refused(UNSUPPORTED, c, "a meeting too wide", () -> c.meet(4, 5, 0));
        due(0, "look(1)", () -> c.look(1));
    }

    private void widest() {
        Watched c = new Watched();
        c.free(0, 1, 0, 1);
        c.free(1, 1, 0, 1);
        c.free(-9998, 1, 7799, 30);
        c.free(-503, 1, 7539, 29);
        c.line(0, 1);
        c.line(2, 3);
        due(6, "meet(4, 5, 0)", () -> c.meet(4, 5, 0));
        x(c, 6, "2147483647/1");
        due(1, "sign(6, false, 0)", () -> c.sign(6, false, 0));
        refused(UNSUPPORTED, c, "sign(6, false, -1)", () -> c.sign(6, false, -1));
        c.free(0, 1, 1, 1);
        c.free(1, 1, 1, 1);
        due(9, "a line with B = C = -2147483647", () -> c.line(7, 6));
        c.line(1, 8);
        due(11, "meet(9, 10, 0)", () -> c.meet(9, 10, 0));
        x(c, 11, "1/1");
        y(c, 11, "2147483646/2147483647");
        due(12, "middle(0, 11)", () -> c.middle(0, 11));
        y(c, 12, "1073741823/2147483647");
        refused(UNSUPPORTED, c, "a middle with q = 2 * 2147483647", () -> c.middle(0, 12));
        refused(UNSUPPORTED, c, "a middle whose sum has p = 2 * 2147483647 - 1", () -> c.middle(7, 11));
    }

    /** A question that was too wide is forgotten by the next one. */
    private void afterTooWide() {
        Watched c = Figures.farOff(10000);
        c.circle(6, 0, 1);
        c.line(2, 1);
        refused(UNSUPPORTED, c, "equal()", () -> c.equal(0, 6, 0, 6));
        due(true, "equal(0, 1, 1, 0)", () -> c.equal(0, 1, 1, 0));
        refused(UNSUPPORTED, c, "equal()", () -> c.equal(0, 6, 0, 6));
        due(0, "angle(4, 8)", () -> c.angle(4, 8));
        refused(UNSUPPORTED, c, "equal()", () -> c.equal(0, 6, 0, 6));
        due(1, "sign(6, false, 0)", () -> c.sign(6, false, 0));
        refused(UNSUPPORTED, c, "equal()", () -> c.equal(0, 6, 0, 6));
        due(1, "side(0, 1, 2)", () -> c.side(0, 1, 2));
        refused(UNSUPPORTED, c, "equal()", () -> c.equal(0, 6, 0, 6));
        due(true, "on(6, 4)", () -> c.on(6, 4));
        refused(UNSUPPORTED, c, "circle(0, 0, 6)", () -> c.circle(0, 0, 6));
        due(9, "free(1, 2, 3, 4)", () -> c.free(1, 2, 3, 4));
        x(c, 9, "1/2");
        refused(UNSUPPORTED, c, "circle(0, 0, 6)", () -> c.circle(0, 0, 6));
        due(-1, "move(9, 1, 3, 1, 5)", () -> c.move(9, 1, 3, 1, 5));
        y(c, 9, "1/5");
    }

    private void move() {
        Watched c = Figures.rootOfTwo();
        due(-1, "move(2, 3, 1, 8, 2)", () -> c.move(2, 3, 1, 8, 2));
        x(c, 2, "3/1");
        y(c, 2, "4/1");
        x(c, 6, "5/1");
        due(0, "look(1)", () -> c.look(1));
        due(-1, "move(2, 1, 1, 2, 1)", () -> c.move(2, 1, 1, 2, 1));
        x(c, 6, "0/1 1/1");
        due(1, "look(1)", () -> c.look(1));
        due("5/1 0/1 0/1 0/1", "radicand 1", () -> c.radicand(1));
        due(-1, "move(2, 1, 1, 2, 1) again", () -> c.move(2, 1, 1, 2, 1));
        due(-1, "move(2, -10000, 10000, 10000, 10000)", () -> c.move(2, -10000, 10000, 10000, 10000));
        due(true, "on(2, 5)", () -> c.on(2, 5));
        due("2/1 0/1 0/1 0/1", "radicand 1", () -> c.radicand(1));
        c.middle(0, 1);
        refused(ARGUMENT, c, "move of a middle", () -> c.move(7, 1, 1, 1, 1));
        Watched full = Figures.full();
        due(-1, "move of the last of 24", () -> full.move(23, 1, 2, 1, 3));
        y(full, 23, "1/3");
        due(-1, "move of the first of 24", () -> full.move(0, 0, 1, -1, 1));
        due(true, "on(1, 4)", () -> full.on(1, 4));
    }

    private void moveThatFails() {
        Watched c = Figures.golden();
        String before = c.state();
        due(5, "move of 1 to 0", () -> c.move(1, 0, 1, 0, 1));
        due(before, "the state", () -> c.state());
        due(6, "move of 4 to 3", () -> c.move(4, 0, 1, 1, 2));
        due(before, "the state", () -> c.state());
        // 7 is (0, 3/4) then, and y = 1 passes by the circle 8.
        due(10, "move of 4 to (1/4, 1/2)", () -> c.move(4, 1, 4, 1, 2));
        due(before, "the state", () -> c.state());
        due(true, "on(10, 8)", () -> c.on(10, 8));
        due(-1, "move of 4 to (2, 1/2)", () -> c.move(4, 2, 1, 1, 2));
        y(c, 7, "5/2");
        due(1, "look(1)", () -> c.look(1));
        due("21/4 0/1 0/1 0/1", "radicand 1", () -> c.radicand(1));
        due(-1, "move of 4 back", () -> c.move(4, 1, 1, 0, 1));
        due(before, "the state", () -> c.state());
    }

    private void undo() {
        Watched c = Figures.golden();
        due(true, "undo()", () -> c.undo());
        due(10, "look(0)", () -> c.look(0));
        due(1, "look(1)", () -> c.look(1));
        due(-1, "kind(10)", () -> c.kind(10));
        due(INDEX, "radicand(2, 0, false)", () -> c.radicand(2, 0, false));
        due(5, "radicand(1, 0, false)", () -> c.radicand(1, 0, false));
        y(c, 7, "1/2 1/1");
        c.undo();
        c.undo();
        due(true, "undo()", () -> c.undo());
        due(0, "look(1)", () -> c.look(1));
        due(INDEX, "radicand(1, 0, false)", () -> c.radicand(1, 0, false));
        due(7, "meet(5, 6, 0)", () -> c.meet(5, 6, 0));
        y(c, 7, "1/2 -1/1");
        for (int left = 7; left >= 0; left--) {
            due(true, "undo()", () -> c.undo());
            int objects = left;
            due(objects, "look(0)", () -> c.look(0));
            due(Math.min(objects, 5), "look(2)", () -> c.look(2));
        }
        due(false, "undo()", () -> c.undo());
        due(0, "look(0)", () -> c.look(0));
        due(0, "free(1, 2, 3, 4)", () -> c.free(1, 2, 3, 4));
        Watched full = Figures.full();
        due(true, "undo() of 24", () -> full.undo());
        due(23, "line(0, 2)", () -> full.line(0, 2));
    }

    private void on() {
        Watched c = Figures.rootOfTwo();
        due(true, "on(0, 4)", () -> c.on(0, 4));
        due(true, "on(6, 4)", () -> c.on(6, 4));
        due(false, "on(2, 4)", () -> c.on(2, 4));
        due(true, "on(2, 5)", () -> c.on(2, 5));
        due(true, "on(6, 5)", () -> c.on(6, 5));
        due(false, "on(1, 5)", () -> c.on(1, 5));
    }

    private void same() {
        Watched c = Figures.rootOfTwo();
        c.free(2, 2, 0, 1);
        due(true, "same(1, 7)", () -> c.same(1, 7));
        due(true, "same(6, 6)", () -> c.same(6, 6));
        due(false, "same(0, 1): another x", () -> c.same(0, 1));
        due(false, "same(1, 2): another y", () -> c.same(1, 2));
        due(false, "same(0, 6): another root", () -> c.same(0, 6));
        c.meet(5, 4, 0);
        due(false, "same(6, 8)", () -> c.same(6, 8));
        Watched far = Figures.farOff(10000);
        due(true, "same(6, 6), however far", () -> far.same(6, 6));
    }

    private void equal() {
        Watched c = Figures.rootOfTwo();
        due(true, "equal(0, 1, 2, 3)", () -> c.equal(0, 1, 2, 3));
        due(true, "equal(0, 6, 1, 3)", () -> c.equal(0, 6, 1, 3));
        due(false, "equal(0, 1, 0, 2)", () -> c.equal(0, 1, 0, 2));
        due(false, "equal(1, 6, 0, 1)", () -> c.equal(1, 6, 0, 1));
        due(true, "equal(0, 0, 1, 1)", () -> c.equal(0, 0, 1, 1));
        due(false, "equal(0, 0, 0, 1)", () -> c.equal(0, 0, 0, 1));
    }

    private void angle() {
        Watched c = Figures.rootOfTwo();
        c.line(3, 2);
        c.line(1, 2);
        c.line(0, 2);
        c.line(3, 6);
        due(1, "angle(4, 7)", () -> c.angle(4, 7));
        due(1, "angle(4, 4)", () -> c.angle(4, 4));
        due(2, "angle(4, 8)", () -> c.angle(4, 8));
        due(2, "angle(8, 7)", () -> c.angle(8, 7));
        due(0, "angle(4, 9)", () -> c.angle(4, 9));
        due(0, "angle(10, 9)", () -> c.angle(10, 9));
        due(1, "angle(10, 10)", () -> c.angle(10, 10));
        c.free(2, 1, 1, 1);
        c.free(-1, 1, 2, 1);
        c.line(0, 11);
        c.line(12, 0);
        due(2, "angle(13, 14), aslant", () -> c.angle(13, 14));
        Watched wide = new Watched();
        wide.free(0, 1, 0, 1);
        wide.free(9973, 9967, 0, 1);
        wide.free(0, 1, 9949, 9941);
        wide.free(9931, 9929, 1, 1);
        wide.line(0, 1);
        wide.line(0, 2);
        wide.line(0, 3);
        wide.free(1, 9923, 9901, 9887);
        wide.line(0, 7);
        due(2, "angle(4, 5): 0 and what fits", () -> wide.angle(4, 5));
        due(0, "angle(6, 5)", () -> wide.angle(6, 5));
        // Each product fits; the sum of the second question has the q of both.
        refused(UNSUPPORTED, wide, "angle(6, 8), too wide", () -> wide.angle(6, 8));
        rightAngleTooWide();
    }

    /** What is worked out only if lines are not parallel is not too wide for those that are. */
    private void rightAngleTooWide() {
        Watched c = Figures.farOff(10000);
        c.free(0, 1, 1, 1);
        c.line(6, 0);
        c.line(0, 6);
        // A is 0 and B 2147000000: 0 * B is 0, but B * B is too wide.
        due(1, "angle(8, 9)", () -> c.angle(8, 9));
        c.free(1, 1, 1, 1);
        c.line(0, 10);
        due(0, "angle(8, 11)", () -> c.angle(8, 11));
        c.free(5000, 1, 1, 1);
        c.line(0, 12);
        // Not parallel, and then B * 5000 is too wide.
        refused(UNSUPPORTED, c, "angle(8, 13)", () -> c.angle(8, 13));
        c.free(1, 1, 2, 1);
        c.line(0, 14);
        refused(UNSUPPORTED, c, "angle(8, 15), at the first question", () -> c.angle(8, 15));
        refused(UNSUPPORTED, c, "angle(15, 8), at the first question", () -> c.angle(15, 8));
    }

    private void side() {
        Watched c = Figures.rootOfTwo();
        due(1, "side(0, 1, 2)", () -> c.side(0, 1, 2));
        due(-1, "side(1, 0, 2)", () -> c.side(1, 0, 2));
        due(0, "side(0, 1, 6)", () -> c.side(0, 1, 6));
        due(0, "side(0, 0, 2)", () -> c.side(0, 0, 2));
        due(-1, "side(1, 2, 6)", () -> c.side(1, 2, 6));
        due(1, "side(3, 6, 2)", () -> c.side(3, 6, 2));
        c.free(5, 1, 5, 1);
        c.free(6, 1, 6, 1);
        c.free(7, 1, 6, 1);
        c.free(6, 1, 7, 1);
        due(-1, "side(7, 8, 9)", () -> c.side(7, 8, 9));
        due(1, "side(7, 8, 10)", () -> c.side(7, 8, 10));
    }

    private void sign() {
        Watched c = Figures.golden();
        due(1, "sign(10, false, 1): the root of the golden ratio is 1.27..", () -> c.sign(10, false, 1));
        due(-1, "sign(10, false, 2)", () -> c.sign(10, false, 2));
        due(1, "sign(10, false, 0)", () -> c.sign(10, false, 0));
        due(0, "sign(10, true, 1)", () -> c.sign(10, true, 1));
        due(1, "sign(7, true, 1): the golden ratio is 1.61..", () -> c.sign(7, true, 1));
        due(-1, "sign(7, true, 2)", () -> c.sign(7, true, 2));
        due(-1, "sign(2, false, 1000000)", () -> c.sign(2, false, 1000000));
        due(1, "sign(2, true, -1000000)", () -> c.sign(2, true, -1000000));
    }

    private void part() {
        Watched c = Figures.golden();
        due(1, "part(7, true, 0, false)", () -> c.part(7, true, 0, false));
        due(2, "part(7, true, 0, true)", () -> c.part(7, true, 0, true));
        due(1, "part(7, true, 1, false)", () -> c.part(7, true, 1, false));
        due(0, "part(7, false, 1, false)", () -> c.part(7, false, 1, false));
        due(1, "part(10, false, 2, false)", () -> c.part(10, false, 2, false));
        c.undo();
        for (int i = 2; i < 4; i++) {
            int part = i;
            due(0, "part(7, true, " + i + ", false), not there", () -> c.part(7, true, part, false));
            due(1, "part(7, true, " + i + ", true), not there", () -> c.part(7, true, part, true));
        }
    }

    private void radicand() {
        Watched c = Figures.golden();
        due(5, "radicand(1, 0, false)", () -> c.radicand(1, 0, false));
        due(4, "radicand(1, 0, true)", () -> c.radicand(1, 0, true));
        due(0, "radicand(1, 3, false)", () -> c.radicand(1, 3, false));
        due(1, "radicand(1, 3, true)", () -> c.radicand(1, 3, true));
        due(1, "radicand(2, 0, false)", () -> c.radicand(2, 0, false));
        due(2, "radicand(2, 0, true)", () -> c.radicand(2, 0, true));
        due(1, "radicand(2, 1, false)", () -> c.radicand(2, 1, false));
        due(0, "radicand(2, 2, false)", () -> c.radicand(2, 2, false));
    }

    private void kind() {
        Watched c = Figures.rootOfTwo();
        c.middle(0, 1);
        int[] kinds = {0, 0, 0, 0, 1, 2, 0, 0, -1};
        for (int i = 0; i < kinds.length; i++) {
            int o = i;
            due(kinds[i], "kind(" + i + ")", () -> c.kind(o));
        }
        due(-1, "kind(-1)", () -> c.kind(-1));
        due(-1, "kind(lowest)", () -> c.kind(LOWEST));
        due(-1, "kind(highest)", () -> c.kind(HIGHEST));
        due(0, "kind(23) of 24", () -> Figures.full().kind(23));
        due(-1, "kind(24) of 24", () -> Figures.full().kind(24));
    }

    private void look() {
        Watched c = Figures.golden();
        c.middle(0, 1);
        due(12, "look(0)", () -> c.look(0));
        due(2, "look(1)", () -> c.look(1));
        due(5, "look(2)", () -> c.look(2));
    }
}
