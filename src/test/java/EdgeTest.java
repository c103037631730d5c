import java.util.concurrent.Callable;
import java.util.function.IntFunction;

/**
 * The sentences of the promises that name a boundary or refuse a call, one by one (each stands in or
 * over its test), at the last value that is allowed and at the first that is not; and nothing has
 * changed after a refused call.
 */
public final class EdgeTest extends Cases {
    /** Of figure(), whose last object is 7. */
    private static final int[] POINTS = {0, 3, 6, 7};
    private static final int[] NO_POINTS = {4, 5, 8, -1, LOWEST, HIGHEST};
    private static final int[] NO_LINES = {0, 5, 6, 7, 8, -1, LOWEST, HIGHEST};
    private static final int[] NO_LINES_OR_CIRCLES = {0, 3, 6, 7, 8, -1, LOWEST, HIGHEST};
    private static final int[] NO_FREE_POINTS = {4, 5, 6, 7, 8, -1, LOWEST, HIGHEST};
    private static final int[] WRONG_UPPERS = {-10001, 10001, LOWEST, HIGHEST};
    private static final int[] WRONG_LOWERS = {0, 10001, -1, LOWEST, HIGHEST};

    private EdgeTest() {
        super("EdgeTest");
    }

    public static void main(String[] args) {
        EdgeTest test = new EdgeTest();
        test.newObject();
        test.freeLimits();
        test.freeOf24();
        test.line();
        test.circle();
        test.middle();
        test.meet();
        test.meetWhich();
        test.movePoint();
        test.moveLimits();
        test.moveThatFailsFirst();
        test.moveToAnyFailure();
        test.undo();
        test.undoOfLevels();
        test.on();
        test.same();
        test.equal();
        test.angle();
        test.side();
        test.sign();
        test.part();
        test.partsNotThere();
        test.radicand();
        test.kind();
        test.look();
        test.end();
    }

    /** rootOfTwo(), and 7 a middle: four free points, the line 4, the circle 5, and two points more; DEPTH 1. */
    private static Watched figure() {
        Watched c = Figures.rootOfTwo();
        c.middle(0, 2);
        return c;
    }

    /** Each of these values makes the call throw. */
    private void wrong(String exception, Watched c, String what, int[] values, IntFunction<Callable<?>> call) {
        for (int w : values) {
            refused(exception, c, what + ", w = " + w, call.apply(w));
        }
    }

    // Promise 1: "No objects, DEPTH 0."

    private void newObject() {
        Watched c = new Watched();
        due(0, "look(0)", () -> c.look(0));
        due(0, "look(1)", () -> c.look(1));
        due(0, "look(2)", () -> c.look(2));
        due(-1, "kind(0)", () -> c.kind(0));
        refused(ARGUMENT, c, "line(0, 0)", () -> c.line(0, 0));
        refused(ARGUMENT, c, "circle(0, 0, 0)", () -> c.circle(0, 0, 0));
        refused(ARGUMENT, c, "middle(0, 0)", () -> c.middle(0, 0));
        refused(ARGUMENT, c, "meet(0, 1, 0)", () -> c.meet(0, 1, 0));
        refused(ARGUMENT, c, "move(0, 0, 1, 0, 1)", () -> c.move(0, 0, 1, 0, 1));
        refused(false, c, "undo()", () -> c.undo());
        refused(ARGUMENT, c, "on(0, 0)", () -> c.on(0, 0));
        refused(ARGUMENT, c, "same(0, 0)", () -> c.same(0, 0));
        refused(ARGUMENT, c, "equal(0, 0, 0, 0)", () -> c.equal(0, 0, 0, 0));
        refused(ARGUMENT, c, "angle(0, 0)", () -> c.angle(0, 0));
        refused(ARGUMENT, c, "side(0, 0, 0)", () -> c.side(0, 0, 0));
        refused(ARGUMENT, c, "sign(0, false, 0)", () -> c.sign(0, false, 0));
        refused(ARGUMENT, c, "part(0, false, 0, false)", () -> c.part(0, false, 0, false));
        refused(INDEX, c, "radicand(1, 0, false)", () -> c.radicand(1, 0, false));
        due(0, "the first object", () -> c.free(1, 1, 1, 1));
    }

    // Promise 2: "IllegalArgumentException if a or c is not -10000 .. 10000, or b or d not 1 .. 10000"

    private void freeLimits() {
        Watched c = new Watched();
        due(0, "free(-10000, 1, 10000, 1)", () -> c.free(-10000, 1, 10000, 1));
        x(c, 0, "-10000/1");
        y(c, 0, "10000/1");
        due(1, "free(10000, 1, -10000, 1)", () -> c.free(10000, 1, -10000, 1));
        x(c, 1, "10000/1");
        y(c, 1, "-10000/1");
        due(2, "free(1, 10000, 1, 1)", () -> c.free(1, 10000, 1, 1));
        x(c, 2, "1/10000");
        due(3, "free(1, 1, 1, 10000)", () -> c.free(1, 1, 1, 10000));
        y(c, 3, "1/10000");
        wrong(ARGUMENT, c, "free(w, 1, 0, 1)", WRONG_UPPERS, w -> () -> c.free(w, 1, 0, 1));
        wrong(ARGUMENT, c, "free(0, 1, w, 1)", WRONG_UPPERS, w -> () -> c.free(0, 1, w, 1));
        wrong(ARGUMENT, c, "free(1, w, 1, 1)", WRONG_LOWERS, w -> () -> c.free(1, w, 1, 1));
        wrong(ARGUMENT, c, "free(1, 1, 1, w)", WRONG_LOWERS, w -> () -> c.free(1, 1, 1, w));
        wrong(ARGUMENT, c, "free(0, w, 0, 1)", WRONG_LOWERS, w -> () -> c.free(0, w, 0, 1));
    }

    // "IllegalStateException if there are 24 objects"

    private void freeOf24() {
        Watched c = new Watched();
        for (int o = 0; o < 24; o++) {
            int number = o;
            due(number, "free() of " + o + " objects", () -> c.free(number, 1, 0, 1));
        }
        refused(STATE, c, "free() of 24 objects", () -> c.free(0, 1, 0, 1));
        due(24, "look(0)", () -> c.look(0));
        due(true, "undo()", () -> c.undo());
        due(23, "free() of 23 objects", () -> c.free(1, 3, 0, 1));
        x(c, 23, "1/3");
    }

    // Promise 3: "IllegalArgumentException if there are no such points; IllegalStateException if there are 24
    // objects; UnsupportedOperationException if it FAILS."

    private void line() {
        for (int p : POINTS) {
            Watched c = figure();
            due(8, "line(1, " + p + ")", () -> c.line(1, p));
            due(9, "line(" + p + ", 1)", () -> c.line(p, 1));
        }
        Watched c = figure();
        wrong(ARGUMENT, c, "line(w, 1)", NO_POINTS, w -> () -> c.line(w, 1));
        wrong(ARGUMENT, c, "line(1, w)", NO_POINTS, w -> () -> c.line(1, w));
        refused(UNSUPPORTED, c, "line(7, 7)", () -> c.line(7, 7));
        due(8, "line(0, 1)", () -> c.line(0, 1));
        Watched full = Figures.full();
        refused(STATE, full, "line(0, 1) of 24 objects", () -> full.line(0, 1));
    }

    // Promise 4: "Throws as line."

    private void circle() {
        for (int p : POINTS) {
            Watched c = figure();
            due(8, "circle(" + p + ", 0, 1)", () -> c.circle(p, 0, 1));
            due(9, "circle(0, 1, " + p + ")", () -> c.circle(0, 1, p));
            due(10, "circle(0, " + p + ", 1)", () -> c.circle(0, p, 1));
        }
        Watched c = figure();
        wrong(ARGUMENT, c, "circle(w, 0, 1)", NO_POINTS, w -> () -> c.circle(w, 0, 1));
        wrong(ARGUMENT, c, "circle(0, w, 1)", NO_POINTS, w -> () -> c.circle(0, w, 1));
        wrong(ARGUMENT, c, "circle(0, 1, w)", NO_POINTS, w -> () -> c.circle(0, 1, w));
        refused(UNSUPPORTED, c, "circle(0, 7, 7)", () -> c.circle(0, 7, 7));
        due(8, "circle(0, 0, 1)", () -> c.circle(0, 0, 1));
        Watched full = Figures.full();
        refused(STATE, full, "circle(0, 0, 1) of 24 objects", () -> full.circle(0, 0, 1));
    }

    // Promise 5: "Throws as line."

    private void middle() {
        for (int p : POINTS) {
            Watched c = figure();
            due(8, "middle(1, " + p + ")", () -> c.middle(1, p));
            due(9, "middle(" + p + ", " + p + ")", () -> c.middle(p, p));
        }
        Watched c = figure();
        wrong(ARGUMENT, c, "middle(w, 1)", NO_POINTS, w -> () -> c.middle(w, 1));
        wrong(ARGUMENT, c, "middle(1, w)", NO_POINTS, w -> () -> c.middle(1, w));
        due(8, "middle(0, 1)", () -> c.middle(0, 1));
        Watched full = Figures.full();
        refused(STATE, full, "middle(0, 1) of 24 objects", () -> full.middle(0, 1));
        Watched far = Figures.farOff(10000);
        refused(UNSUPPORTED, far, "a middle TOO WIDE", () -> far.middle(6, 6));
    }

    // Promise 6: "IllegalArgumentException if there are no such lines or circles, they are the same object"

    private void meet() {
        Watched c = figure();
        c.line(0, 3);
        c.circle(1, 0, 2);
        int[] no = {0, 3, 6, 7, 10, -1, LOWEST, HIGHEST};
        wrong(ARGUMENT, c, "meet(w, 4, 0)", no, w -> () -> c.meet(w, 4, 0));
        wrong(ARGUMENT, c, "meet(4, w, 0)", no, w -> () -> c.meet(4, w, 0));
        wrong(ARGUMENT, c, "meet(w, 5, 1)", no, w -> () -> c.meet(w, 5, 1));
        wrong(ARGUMENT, c, "meet(5, w, 1)", no, w -> () -> c.meet(5, w, 1));
        wrong(ARGUMENT, c, "meet(w, w, 0)", new int[] {4, 5, 8, 9, 10}, w -> () -> c.meet(w, w, 0));
        due(10, "meet(4, 8, 0)", () -> c.meet(4, 8, 0));
        due(11, "meet(9, 8, 1)", () -> c.meet(9, 8, 1));
        due(12, "meet(5, 9, 1)", () -> c.meet(5, 9, 1));
        Watched full = Figures.full();
        refused(STATE, full, "meet(4, 5, 0) of 24 objects", () -> full.meet(4, 5, 0));
        Watched twice = figure();
        twice.line(1, 0);
        refused(UNSUPPORTED, twice, "two lines at one place", () -> twice.meet(4, 8, 0));
    }

    // "or which is not 0, for a meeting with a circle not 0 or 1"

    private void meetWhich() {
        Watched c = figure();
        c.line(0, 3);
        c.circle(1, 0, 2);
        wrong(ARGUMENT, c, "meet(4, 8, w)", new int[] {-1, 1, 2, LOWEST, HIGHEST}, w -> () -> c.meet(4, 8, w));
        int[] no = {-1, 2, LOWEST, HIGHEST};
        wrong(ARGUMENT, c, "meet(4, 5, w)", no, w -> () -> c.meet(4, 5, w));
        wrong(ARGUMENT, c, "meet(5, 4, w)", no, w -> () -> c.meet(5, 4, w));
        wrong(ARGUMENT, c, "meet(5, 9, w)", no, w -> () -> c.meet(5, 9, w));
        due(10, "meet(4, 8, 0)", () -> c.meet(4, 8, 0));
        due(11, "meet(4, 5, 0)", () -> c.meet(4, 5, 0));
        due(12, "meet(5, 4, 1)", () -> c.meet(5, 4, 1));
        due(13, "meet(5, 9, 0)", () -> c.meet(5, 9, 0));
        due(14, "meet(5, 9, 1)", () -> c.meet(5, 9, 1));
        due(true, "same(12, 6)", () -> c.same(12, 6));
        due(false, "same(11, 12)", () -> c.same(11, 12));
        due(false, "same(13, 14)", () -> c.same(13, 14));
    }

    // Promise 7: "IllegalArgumentException if there is no such free point, or a number is not as for free()."

    private void movePoint() {
        Watched c = figure();
        wrong(ARGUMENT, c, "move(w, 1, 2, 1, 2)", NO_FREE_POINTS, w -> () -> c.move(w, 1, 2, 1, 2));
        due(-1, "move of the first free point", () -> c.move(0, 1, 2, 0, 1));
        due(-1, "move of the last free point", () -> c.move(3, 1, 2, 1, 2));
        x(c, 0, "1/2");
        y(c, 3, "1/2");
        c.free(5, 1, 5, 1);
        due(-1, "move of the last object", () -> c.move(8, 6, 1, 7, 1));
        x(c, 8, "6/1");
        y(c, 8, "7/1");
        Watched full = Figures.full();
        due(-1, "move of the last of 24", () -> full.move(23, 1, 2, 1, 3));
        y(full, 23, "1/3");
        refused(ARGUMENT, full, "move(24, 1, 2, 1, 3)", () -> full.move(24, 1, 2, 1, 3));
    }

    private void moveLimits() {
        Watched c = figure();
        wrong(ARGUMENT, c, "move(3, w, 1, 0, 1)", WRONG_UPPERS, w -> () -> c.move(3, w, 1, 0, 1));
        wrong(ARGUMENT, c, "move(3, 0, 1, w, 1)", WRONG_UPPERS, w -> () -> c.move(3, 0, 1, w, 1));
        wrong(ARGUMENT, c, "move(3, 1, w, 1, 1)", WRONG_LOWERS, w -> () -> c.move(3, 1, w, 1, 1));
        wrong(ARGUMENT, c, "move(3, 1, 1, 1, w)", WRONG_LOWERS, w -> () -> c.move(3, 1, 1, 1, w));
        due(-1, "move(3, -10000, 1, 10000, 1)", () -> c.move(3, -10000, 1, 10000, 1));
        x(c, 3, "-10000/1");
        y(c, 3, "10000/1");
        due(-1, "move(3, 10000, 1, -10000, 1)", () -> c.move(3, 10000, 1, -10000, 1));
        x(c, 3, "10000/1");
        y(c, 3, "-10000/1");
        due(-1, "move(3, 1, 10000, 1, 1)", () -> c.move(3, 1, 10000, 1, 1));
        x(c, 3, "1/10000");
        due(-1, "move(3, 1, 1, 1, 10000)", () -> c.move(3, 1, 1, 1, 10000));
        y(c, 3, "1/10000");
    }

    // "NONE; the number of the first object that FAILS, if one does (then nothing has changed)"

    private void moveThatFailsFirst() {
        Watched c = Figures.unitSquare();
        c.line(2, 3);
        c.circle(0, 0, 3);
        c.line(0, 3);
        c.line(0, 2);
        refused(7, c, "move of 3 to 0: both 7 and 8 would FAIL", () -> c.move(3, 0, 1, 0, 1));
        refused(5, c, "move of 2 to 0: both 5 and 9 would FAIL", () -> c.move(2, 0, 1, 0, 1));
        refused(6, c, "move of 3 to 2", () -> c.move(3, 1, 1, 1, 1));
        refused(4, c, "move of 0 to 1", () -> c.move(0, 1, 1, 0, 1));
        due(-1, "move of 0 where it is", () -> c.move(0, 0, 1, 0, 1));
        due(-1, "move of 0", () -> c.move(0, 0, 1, 1, 2));
        y(c, 0, "1/2");
    }

    private void moveToAnyFailure() {
        Watched parallel = Figures.unitSquare();
        parallel.line(0, 2);
        parallel.meet(4, 6, 0);
        refused(7, parallel, "a move to parallel lines", () -> parallel.move(2, 5, 1, 0, 1));
        Watched apart = new Watched();
        apart.free(0, 1, 0, 1);
        apart.free(1, 1, 0, 1);
        apart.free(1, 1, 1, 1);
        apart.line(1, 2);
        apart.circle(0, 1, 2);
        apart.meet(3, 4, 0);
        refused(5, apart, "a move away from a line that touches", () -> apart.move(0, -1, 10000, 0, 1));
        due(-1, "a move towards a line that touches", () -> apart.move(0, 1, 10000, 0, 1));
        Watched centre = new Watched();
        centre.free(0, 1, 0, 1);
        centre.free(1, 1, 0, 1);
        centre.free(5, 1, 5, 1);
        centre.free(6, 1, 5, 1);
        centre.circle(0, 2, 3);
        centre.circle(1, 2, 3);
        centre.meet(4, 5, 0);
        refused(6, centre, "a move to one centre", () -> centre.move(1, 0, 1, 0, 1));
        moveToThirdLevel();
        Watched wide = new Watched();
        for (int o = 0; o < 4; o++) {
            wide.free(o, 1, 0, 1);
        }
        wide.middle(0, 1);
        wide.middle(2, 3);
        wide.middle(4, 5);
        due(-1, "move(0, 1, 9999, 0, 1)", () -> wide.move(0, 1, 9999, 0, 1));
        due(-1, "move(1, 1, 9998, 0, 1)", () -> wide.move(1, 1, 9998, 0, 1));
        refused(6, wide, "a move to what is TOO WIDE", () -> wide.move(2, 1, 9997, 0, 1));
    }

    private void moveToThirdLevel() {
        Watched c = Figures.unitSquare();
        c.free(1, 1, 2, 1);
        c.free(3, 1, 4, 1);
        c.circle(0, 0, 6);
        c.circle(0, 0, 7);
        c.meet(4, 5, 1);
        c.meet(4, 8, 1);
        c.meet(4, 9, 1);
        x(c, 12, "5/1");
        refused(12, c, "a move to the root of 13, with those of 2 and 5", () -> c.move(7, 2, 1, 3, 1));
        due(-1, "a move to the root of 10", () -> c.move(7, 1, 1, 3, 1));
        x(c, 12, "0/1 0/1 0/1 1/1");
    }

    // Promise 8: "The last object goes, and all is REDRAWN (which can't FAIL; the DEPTH may be less then): true; false
    // if there is none."

    private void undo() {
        Watched c = Figures.full();
        for (int left = 23; left >= 0; left--) {
            int objects = left;
            due(true, "undo()", () -> c.undo());
            due(objects, "look(0)", () -> c.look(0));
            due(-1, "kind(" + left + ")", () -> c.kind(objects));
        }
        refused(false, c, "undo() of no object", () -> c.undo());
        refused(false, c, "undo() of no object", () -> c.undo());
        due(0, "free(1, 2, 3, 4)", () -> c.free(1, 2, 3, 4));
        due(true, "undo() of one object", () -> c.undo());
        refused(false, c, "undo() of no object", () -> c.undo());
    }

    private void undoOfLevels() {
        Watched c = Figures.golden();
        String whole = c.state();
        due(2, "DEPTH", () -> c.look(1));
        c.meet(9, 8, 0);
        due(true, "undo()", () -> c.undo());
        due(whole, "the state: 10 keeps DEPTH 2", () -> c.state());
        due(true, "undo() of 10", () -> c.undo());
        due(1, "DEPTH", () -> c.look(1));
        refused(INDEX, c, "radicand(2, 0, false)", () -> c.radicand(2, 0, false));
        radicand(c, 1, "5/4");
        due(true, "undo() of 9", () -> c.undo());
        due(true, "undo() of 8", () -> c.undo());
        due(1, "DEPTH", () -> c.look(1));
        due(true, "undo() of 7", () -> c.undo());
        due(0, "DEPTH", () -> c.look(1));
        refused(INDEX, c, "radicand(1, 0, false)", () -> c.radicand(1, 0, false));
        c.meet(5, 6, 1);
        c.circle(0, 0, 7);
        c.line(1, 2);
        c.meet(9, 8, 1);
        due(whole, "the state, when all has been made again", () -> c.state());
    }

    // Promise 9: "IllegalArgumentException if there is no such point, or o is no line or circle."

    private void on() {
        Watched c = figure();
        wrong(ARGUMENT, c, "on(w, 4)", NO_POINTS, w -> () -> c.on(w, 4));
        wrong(ARGUMENT, c, "on(w, 5)", NO_POINTS, w -> () -> c.on(w, 5));
        wrong(ARGUMENT, c, "on(0, w)", NO_LINES_OR_CIRCLES, w -> () -> c.on(0, w));
        refused(true, c, "on(6, 4)", () -> c.on(6, 4));
        refused(false, c, "on(7, 4)", () -> c.on(7, 4));
        refused(true, c, "on(2, 5)", () -> c.on(2, 5));
        refused(false, c, "on(7, 5)", () -> c.on(7, 5));
        c.line(0, 2);
        due(true, "on(7, 8)", () -> c.on(7, 8));
        refused(ARGUMENT, c, "on(7, 9)", () -> c.on(7, 9));
    }

    // Promise 10: "IllegalArgumentException if there are no such points."

    private void same() {
        Watched c = figure();
        wrong(ARGUMENT, c, "same(w, 0)", NO_POINTS, w -> () -> c.same(w, 0));
        wrong(ARGUMENT, c, "same(0, w)", NO_POINTS, w -> () -> c.same(0, w));
        wrong(ARGUMENT, c, "same(w, w)", NO_POINTS, w -> () -> c.same(w, w));
        for (int p : POINTS) {
            refused(true, c, "same(" + p + ", " + p + ")", () -> c.same(p, p));
            refused(false, c, "same(1, " + p + ")", () -> c.same(1, p));
        }
    }

    // Promise 11: "IllegalArgumentException if there are no such points (they may be the same, here and in side())."

    private void equal() {
        Watched c = figure();
        wrong(ARGUMENT, c, "equal(w, 0, 0, 0)", NO_POINTS, w -> () -> c.equal(w, 0, 0, 0));
        wrong(ARGUMENT, c, "equal(0, w, 0, 0)", NO_POINTS, w -> () -> c.equal(0, w, 0, 0));
        wrong(ARGUMENT, c, "equal(0, 0, w, 0)", NO_POINTS, w -> () -> c.equal(0, 0, w, 0));
        wrong(ARGUMENT, c, "equal(0, 0, 0, w)", NO_POINTS, w -> () -> c.equal(0, 0, 0, w));
        refused(true, c, "equal(7, 7, 7, 7)", () -> c.equal(7, 7, 7, 7));
        refused(true, c, "equal(7, 7, 0, 0)", () -> c.equal(7, 7, 0, 0));
        refused(false, c, "equal(7, 7, 0, 7)", () -> c.equal(7, 7, 0, 7));
        refused(true, c, "equal(0, 7, 7, 2)", () -> c.equal(0, 7, 7, 2));
        refused(true, c, "equal(6, 0, 0, 2)", () -> c.equal(6, 0, 0, 2));
        refused(false, c, "equal(0, 1, 0, 2)", () -> c.equal(0, 1, 0, 2));
    }

    // Promise 12: "1 if they are parallel (..; also one line twice) .. IllegalArgumentException if there are no such
    // lines."

    private void angle() {
        Watched c = figure();
        wrong(ARGUMENT, c, "angle(w, 4)", NO_LINES, w -> () -> c.angle(w, 4));
        wrong(ARGUMENT, c, "angle(4, w)", NO_LINES, w -> () -> c.angle(4, w));
        wrong(ARGUMENT, c, "angle(w, w)", NO_LINES, w -> () -> c.angle(w, w));
        refused(1, c, "one line twice", () -> c.angle(4, 4));
        c.line(2, 3);
        c.line(3, 0);
        c.free(9999, 10000, 1, 10000);
        c.line(10, 0);
        refused(1, c, "angle(4, 8)", () -> c.angle(4, 8));
        refused(2, c, "angle(4, 9)", () -> c.angle(4, 9));
        refused(0, c, "not quite parallel", () -> c.angle(4, 11));
        c.free(1, 10000, 9999, 10000);
        c.line(0, 12);
        refused(0, c, "not quite at right angles", () -> c.angle(4, 13));
    }

    // Promise 13: "IllegalArgumentException if there are no such points."

    private void side() {
        Watched c = figure();
        wrong(ARGUMENT, c, "side(w, 0, 0)", NO_POINTS, w -> () -> c.side(w, 0, 0));
        wrong(ARGUMENT, c, "side(0, w, 0)", NO_POINTS, w -> () -> c.side(0, w, 0));
        wrong(ARGUMENT, c, "side(0, 0, w)", NO_POINTS, w -> () -> c.side(0, 0, w));
        refused(0, c, "one point three times", () -> c.side(7, 7, 7));
        refused(0, c, "p and q the same", () -> c.side(0, 0, 7));
        refused(0, c, "p and r the same", () -> c.side(0, 7, 0));
        refused(0, c, "q and r the same", () -> c.side(0, 7, 7));
        refused(1, c, "side(0, 1, 7)", () -> c.side(0, 1, 7));
        refused(-1, c, "side(6, 7, 0)", () -> c.side(7, 6, 0));
        c.free(5000, 10000, 1, 10000);
        c.free(5000, 10000, -1, 10000);
        due(1, "a little to the left", () -> c.side(0, 1, 8));
        due(-1, "a little to the right", () -> c.side(0, 1, 9));
    }

    // Promise 14: "IllegalArgumentException if there is no such point, or n is not -1000000 .. 1000000."

    private void sign() {
        Watched c = figure();
        wrong(ARGUMENT, c, "sign(w, false, 0)", NO_POINTS, w -> () -> c.sign(w, false, 0));
        wrong(ARGUMENT, c, "sign(w, true, 0)", NO_POINTS, w -> () -> c.sign(w, true, 0));
        int[] no = {-1000001, 1000001, LOWEST, HIGHEST};
        wrong(ARGUMENT, c, "sign(0, false, w)", no, w -> () -> c.sign(0, false, w));
        wrong(ARGUMENT, c, "sign(0, true, w)", no, w -> () -> c.sign(0, true, w));
        refused(1, c, "sign(0, false, -1000000)", () -> c.sign(0, false, -1000000));
        refused(-1, c, "sign(0, true, 1000000)", () -> c.sign(0, true, 1000000));
        refused(0, c, "sign(0, true, 0)", () -> c.sign(0, true, 0));
        Watched far = Figures.axis();
        Figures.far(far, 1000000);
        Figures.far(far, -1000000);
        due(0, "1000000 less 1000000", () -> far.sign(6, false, 1000000));
        due(1, "1000000 less 999999", () -> far.sign(6, false, 999999));
        due(0, "-1000000 less -1000000", () -> far.sign(10, false, -1000000));
        due(-1, "-1000000 less -999999", () -> far.sign(10, false, -999999));
    }

    // Promise 15: "IllegalArgumentException if there is no such point or i."

    private void part() {
        Watched c = figure();
        wrong(ARGUMENT, c, "part(w, false, 0, false)", NO_POINTS, w -> () -> c.part(w, false, 0, false));
        wrong(ARGUMENT, c, "part(w, true, 3, true)", NO_POINTS, w -> () -> c.part(w, true, 3, true));
        int[] no = {-1, 4, LOWEST, HIGHEST};
        wrong(ARGUMENT, c, "part(6, false, w, false)", no, w -> () -> c.part(6, false, w, false));
        wrong(ARGUMENT, c, "part(6, true, w, true)", no, w -> () -> c.part(6, true, w, true));
        refused(0, c, "part(6, false, 0, false)", () -> c.part(6, false, 0, false));
        refused(1, c, "part(6, false, 1, false)", () -> c.part(6, false, 1, false));
        refused(1, c, "part(6, false, 3, true)", () -> c.part(6, false, 3, true));
        refused(2, c, "part(7, true, 0, true)", () -> c.part(7, true, 0, true));
    }

    // "0 for those that are not there, or 1 for their q (i being 0 .. 3)"

    private void partsNotThere() {
        Watched c = Figures.golden();
        c.free(2, 3, -5, 7);
        for (int depth = 2; depth >= 0; depth--) {
            int now = depth;
            due(now, "DEPTH", () -> c.look(1));
            x(c, 2, "1/1 0/1 0/1 0/1");
            y(c, 2, "1/1 0/1 0/1 0/1");
            x(c, 3, "0/1 0/1 0/1 0/1");
            y(c, 3, "1/2 0/1 0/1 0/1");
            // Down to the meeting that took the level.
            while (c.look(1) == now && c.look(0) > 5) {
                c.undo();
            }
        }
        Watched d = Figures.golden();
        d.undo();
        y(d, 7, "1/2 1/1 0/1 0/1");
    }

    // Promise 16: "IndexOutOfBoundsException if there is no such level, or i is not 0 .. 3."

    private void radicand() {
        Watched none = Figures.unitSquare();
        int[] noLevels = {-1, 0, 1, 2, 3, LOWEST, HIGHEST};
        wrong(INDEX, none, "radicand(w, 0, false) at DEPTH 0", noLevels, w -> () -> none.radicand(w, 0, false));
        Watched one = figure();
        int[] notOne = {-1, 0, 2, 3, LOWEST, HIGHEST};
        wrong(INDEX, one, "radicand(w, 0, true) at DEPTH 1", notOne, w -> () -> one.radicand(w, 0, true));
        refused(2, one, "radicand(1, 0, false)", () -> one.radicand(1, 0, false));
        refused(1, one, "radicand(1, 0, true)", () -> one.radicand(1, 0, true));
        Watched two = Figures.golden();
        int[] notTwo = {-1, 0, 3, 4, LOWEST, HIGHEST};
        wrong(INDEX, two, "radicand(w, 0, false) at DEPTH 2", notTwo, w -> () -> two.radicand(w, 0, false));
        int[] noParts = {-1, 4, LOWEST, HIGHEST};
        for (int k = 1; k <= 2; k++) {
            int level = k;
            wrong(INDEX, two, "radicand(" + k + ", w, false)", noParts, w -> () -> two.radicand(level, w, false));
            wrong(INDEX, two, "radicand(" + k + ", w, true)", noParts, w -> () -> two.radicand(level, w, true));
        }
        radicand(two, 1, "5/4 0/1 0/1 0/1");
        radicand(two, 2, "1/2 1/1 0/1 0/1");
    }

    // Promise 17: "NONE if there is none such."

    private void kind() {
        Watched c = figure();
        int[] kinds = {0, 0, 0, 0, 1, 2, 0, 0};
        for (int i = 0; i < kinds.length; i++) {
            int o = i;
            due(kinds[o], "kind(" + o + ")", () -> c.kind(o));
        }
        for (int w : new int[] {8, -1, 23, 24, LOWEST, HIGHEST}) {
            refused(-1, c, "kind(" + w + ")", () -> c.kind(w));
        }
        Watched full = Figures.full();
        due(0, "kind(23) of 24 objects", () -> full.kind(23));
        due(-1, "kind(24) of 24 objects", () -> full.kind(24));
    }

    // Promise 18: "NONE for any other which."

    private void look() {
        Watched c = figure();
        due(8, "look(0)", () -> c.look(0));
        due(1, "look(1)", () -> c.look(1));
        due(4, "look(2)", () -> c.look(2));
        for (int w : new int[] {-1, 3, LOWEST, HIGHEST}) {
            refused(-1, c, "look(" + w + ")", () -> c.look(w));
        }
        Watched full = Figures.full();
        due(24, "look(0)", () -> full.look(0));
        due(22, "look(2)", () -> full.look(2));
    }
}
