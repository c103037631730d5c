/**
 * Constructions with straightedge and compass, exactly: points, lines and circles in numbers that
 * are made of fractions and of at most two square roots, one over the other.
 */
public final class RootCompass {
    public static final int NONE = -1;

    private static final int MOST_OBJECTS = 24;
    private static final int WIDEST_INPUT = 10000;
    private static final int WIDEST_SHIFT = 1000000;

    private static final int POINT_KIND = 0;
    private static final int LINE_KIND = 1;
    private static final int CIRCLE_KIND = 2;

    private static final int FREE = 0;
    private static final int LINE = 1;
    private static final int CIRCLE = 2;
    private static final int MIDDLE = 3;
    private static final int LINES_MEET = 4;
    private static final int LINE_CUTS_CIRCLE = 5;
    private static final int CIRCLES_MEET = 6;

    /** A point keeps x and y, a line A, B and C, a circle its SQUARE. */
    private static final int NUMBERS_PER_OBJECT = 3;

    private final Numbers numbers;
    private final Cut cut;
    private final int[] step;
    private final int[] first;
    private final int[] second;
    private final int[] third;
    /** The DEPTH before each object was made; behind the last object, the DEPTH now. */
    private final int[] depthBefore;
    private int count;

    public RootCompass() {
        // The room of one object more holds the old place of a point that moves.
        numbers = new Numbers((MOST_OBJECTS + 1) * NUMBERS_PER_OBJECT);
        cut = new Cut();
        step = new int[MOST_OBJECTS];
        first = new int[MOST_OBJECTS];
        second = new int[MOST_OBJECTS];
        third = new int[MOST_OBJECTS];
        depthBefore = new int[MOST_OBJECTS + 1];
        count = 0;
    }

    public int free(int a, int b, int c, int d) throws IllegalArgumentException, IllegalStateException {
        if (!isPlace(a, b, c, d)) {
            throw new IllegalArgumentException("a number is out of its range");
        }
        int o = addStep(FREE, 0, 0, 0);
        place(o, a, b, c, d);
        return settle(redraw(o));
    }

    public int line(int p, int q)
            throws IllegalArgumentException, IllegalStateException, UnsupportedOperationException {
        if (!isPoint(p) || !isPoint(q)) {
            throw new IllegalArgumentException("no such points");
        }
        return settle(redraw(addStep(LINE, p, q, 0)));
    }

    public int circle(int c, int p, int q)
            throws IllegalArgumentException, IllegalStateException, UnsupportedOperationException {
        if (!isPoint(c) || !isPoint(p) || !isPoint(q)) {
            throw new IllegalArgumentException("no such points");
        }
        return settle(redraw(addStep(CIRCLE, c, p, q)));
    }

    public int middle(int p, int q)
            throws IllegalArgumentException, IllegalStateException, UnsupportedOperationException {
        if (!isPoint(p) || !isPoint(q)) {
            throw new IllegalArgumentException("no such points");
        }
        return settle(redraw(addStep(MIDDLE, p, q, 0)));
    }

    public int meet(int a, int b, int which)
            throws IllegalArgumentException, IllegalStateException, UnsupportedOperationException {
        if (!isCurve(a) || !isCurve(b) || a == b) {
            throw new IllegalArgumentException("no two such lines or circles");
        }
        int circles = (isCircle(a) ? 1 : 0) + (isCircle(b) ? 1 : 0);
        if (which < 0 || which > (circles == 0 ? 0 : 1)) {
            throw new IllegalArgumentException("no such meeting");
        }
        if (circles != 1) {
            return settle(redraw(addStep(circles == 0 ? LINES_MEET : CIRCLES_MEET, a, b, which)));
        }
        return settle(redraw(addStep(LINE_CUTS_CIRCLE, isLine(a) ? a : b, isLine(a) ? b : a, which)));
    }

    public int move(int p, int a, int b, int c, int d) throws IllegalArgumentException {
        if (!isPoint(p) || step[p] != FREE) {
            throw new IllegalArgumentException("no such free point");
        }
        if (!isPlace(a, b, c, d)) {
            throw new IllegalArgumentException("a number is out of its range");
        }
        copyPlace(p, MOST_OBJECTS);
        place(p, a, b, c, d);
        int failing = redraw(p);
        if (failing != NONE) {
            copyPlace(MOST_OBJECTS, p);
            redraw(p);
        }
        return failing;
    }

    public boolean undo() {
        if (count == 0) {
            return false;
        }
        count--;
        // The objects that are left would come out of a redrawing as they are.
        numbers.depth = depthBefore[count];
        return true;
    }

    public boolean on(int p, int o) throws IllegalArgumentException, UnsupportedOperationException {
        if (!isPoint(p) || !isCurve(o)) {
            throw new IllegalArgumentException("no such point, or no such line or circle");
        }
        numbers.begin();
        boolean lies = isLine(o) ? liesOnLine(p, o) : numbers.alike(squareOfDistance(first[o], p), squareOf(o));
        refuseTooWide();
        return lies;
    }

    public boolean same(int p, int q) throws IllegalArgumentException {
        if (!isPoint(p) || !isPoint(q)) {
            throw new IllegalArgumentException("no such points");
        }
        return coincide(p, q);
    }

    public boolean equal(int p, int q, int r, int s) throws IllegalArgumentException, UnsupportedOperationException {
        if (!isPoint(p) || !isPoint(q) || !isPoint(r) || !isPoint(s)) {
            throw new IllegalArgumentException("no such points");
        }
        numbers.begin();
        boolean asFar = numbers.alike(squareOfDistance(p, q), squareOfDistance(r, s));
        refuseTooWide();
        return asFar;
    }

    public int angle(int a, int b) throws IllegalArgumentException, UnsupportedOperationException {
        if (!isLine(a) || !isLine(b)) {
            throw new IllegalArgumentException("no such lines");
        }
        numbers.begin();
        boolean parallel = numbers.alike(numbers.times(lineA(a), lineB(b)), numbers.times(lineA(b), lineB(a)));
        refuseTooWide();
        if (parallel) {
            return 1;
        }
        int product = numbers.plus(numbers.times(lineA(a), lineA(b)), numbers.times(lineB(a), lineB(b)));
        refuseTooWide();
        return numbers.isNought(product) ? 2 : 0;
    }

    public int side(int p, int q, int r) throws IllegalArgumentException, UnsupportedOperationException {
        if (!isPoint(p) || !isPoint(q) || !isPoint(r)) {
            throw new IllegalArgumentException("no such points");
        }
        numbers.begin();
        int turn = numbers.signum(numbers.minus(
                numbers.times(numbers.minus(xOf(q), xOf(p)), numbers.minus(yOf(r), yOf(p))),
                numbers.times(numbers.minus(yOf(q), yOf(p)), numbers.minus(xOf(r), xOf(p)))));
        refuseTooWide();
        return turn;
    }

    public int sign(int p, boolean y, int n) throws IllegalArgumentException, UnsupportedOperationException {
        if (!isPoint(p) || n < -WIDEST_SHIFT || n > WIDEST_SHIFT) {
            throw new IllegalArgumentException("no such point, or n is out of its range");
        }
        numbers.begin();
        int answer = numbers.signum(numbers.minus(y ? yOf(p) : xOf(p), numbers.whole(n)));
        refuseTooWide();
        return answer;
    }

    public int part(int p, boolean y, int i, boolean q) throws IllegalArgumentException {
        if (!isPoint(p) || i < 0 || i >= Numbers.SIZE) {
            throw new IllegalArgumentException("no such point or part");
        }
        return numbers.read((y ? yOf(p) : xOf(p)) + i, q);
    }

    public int radicand(int k, int i, boolean q) throws IndexOutOfBoundsException {
        if (k < 1 || k > numbers.depth || i < 0 || i >= Numbers.SIZE) {
            throw new IndexOutOfBoundsException("no such level or part");
        }
        return numbers.read(Numbers.radicandOf(k) + i, q);
    }

    public int kind(int o) {
        if (o < 0 || o >= count) {
            return NONE;
        }
        return step[o] == LINE ? LINE_KIND : step[o] == CIRCLE ? CIRCLE_KIND : POINT_KIND;
    }

    public int look(int which) {
        switch (which) {
            case 0:
                return count;
            case 1:
                return numbers.depth;
            case 2:
                return countFreePoints();
            default:
                return NONE;
        }
    }

    private int countFreePoints() {
        int found = 0;
        for (int o = 0; o < count; o++) {
            found += step[o] == FREE ? 1 : 0;
        }
        return found;
    }

    private boolean isPoint(int o) {
        return kind(o) == POINT_KIND;
    }

    private boolean isLine(int o) {
        return kind(o) == LINE_KIND;
    }

    private boolean isCircle(int o) {
        return kind(o) == CIRCLE_KIND;
    }

    private boolean isCurve(int o) {
        return isLine(o) || isCircle(o);
    }

    private static boolean isPlace(int a, int b, int c, int d) {
        return isInput(a, b) && isInput(c, d);
    }

    private static boolean isInput(int p, int q) {
        return p >= -WIDEST_INPUT && p <= WIDEST_INPUT && q >= 1 && q <= WIDEST_INPUT;
    }

    /** Writes the step of a new last object, which redraw() then has to make. */
    private int addStep(int what, int a, int b, int c) {
        if (count >= MOST_OBJECTS) {
            throw new IllegalStateException("there are 24 objects");
        }
        step[count] = what;
        first[count] = a;
        second[count] = b;
        third[count] = c;
        count++;
        return count - 1;
    }

    /** The number of the new last object, unless it FAILS, given the answer of redraw(). */
    private int settle(int failing) {
        if (failing != NONE) {
            undo();
            throw new UnsupportedOperationException("this can't be made");
        }
        return count - 1;
    }

    private void refuseTooWide() {
        if (numbers.failed) {
            throw new UnsupportedOperationException("a fraction is too wide");
        }
    }

    /**
     * Makes the objects anew from the given one on: the first that FAILS, or NONE. Those before it
     * are not made of it, and would come out as they are.
     */
    private int redraw(int from) {
        numbers.depth = depthBefore[from];
        for (int o = from; o < count; o++) {
            numbers.begin();
            switch (step[o]) {
                case LINE:
                    drawLine(o);
                    break;
                case CIRCLE:
                    drawCircle(o);
                    break;
                case MIDDLE:
                    drawMiddle(o);
                    break;
                case LINES_MEET:
                    drawMeetingOfLines(o);
                    break;
                case LINE_CUTS_CIRCLE:
                    takeLine(first[o]);
                    drawCut(o, numbers.takeRoot(measureCut(second[o])));
                    break;
                case CIRCLES_MEET:
                    takeCommonLine(first[o], second[o]);
                    drawCut(o, numbers.takeRoot(measureCut(first[o])));
                    break;
                default:
                    // A free point stays where it was placed.
                    break;
            }
            if (numbers.failed) {
                return o;
            }
            depthBefore[o + 1] = numbers.depth;
        }
        return NONE;
    }

    private void drawLine(int o) {
        int p = first[o];
        int q = second[o];
        if (coincide(p, q)) {
            numbers.failed = true;
            return;
        }
        int a = numbers.minus(yOf(q), yOf(p));
        int b = numbers.minus(xOf(p), xOf(q));
        numbers.copy(a, lineA(o));
        numbers.copy(b, lineB(o));
        numbers.copy(numbers.plus(numbers.times(a, xOf(p)), numbers.times(b, yOf(p))), lineC(o));
    }

    private void drawCircle(int o) {
        int square = squareOfDistance(second[o], third[o]);
        if (numbers.isNought(square)) {
            numbers.failed = true;
            return;
        }
        numbers.copy(square, squareOf(o));
    }

    private void drawMiddle(int o) {
        int p = first[o];
        int q = second[o];
        numbers.copy(numbers.halved(numbers.plus(xOf(p), xOf(q))), xOf(o));
        numbers.copy(numbers.halved(numbers.plus(yOf(p), yOf(q))), yOf(o));
    }

    private void drawMeetingOfLines(int o) {
        int a = first[o];
        int b = second[o];
        int d = numbers.minus(numbers.times(lineA(a), lineB(b)), numbers.times(lineA(b), lineB(a)));
        // Parallel lines FAIL here, because 0 has no inverse.
        int m = numbers.inverted(d);
        int x = numbers.minus(numbers.times(lineC(a), lineB(b)), numbers.times(lineC(b), lineB(a)));
        int y = numbers.minus(numbers.times(lineA(a), lineC(b)), numbers.times(lineA(b), lineC(a)));
        numbers.copy(numbers.times(x, m), xOf(o));
        numbers.copy(numbers.times(y, m), yOf(o));
    }

    private void takeLine(int line) {
        cut.a = lineA(line);
        cut.b = lineB(line);
        cut.c = lineC(line);
    }

    /** The line through the meetings of two circles. */
    private void takeCommonLine(int circle, int other) {
        int p = first[circle];
        int q = first[other];
        int d = numbers.minus(xOf(q), xOf(p));
        int e = numbers.minus(yOf(q), yOf(p));
        cut.a = numbers.plus(d, d);
        cut.b = numbers.plus(e, e);
        int acrossX = numbers.minus(numbers.times(xOf(q), xOf(q)), numbers.times(xOf(p), xOf(p)));
        int acrossY = numbers.minus(numbers.times(yOf(q), yOf(q)), numbers.times(yOf(p), yOf(p)));
        cut.c = numbers.plus(numbers.minus(squareOf(circle), squareOf(other)), numbers.plus(acrossX, acrossY));
    }

    /** Works out what is known before the root is taken: the number whose root it is. */
    private int measureCut(int circle) {
        int x = xOf(first[circle]);
        int y = yOf(first[circle]);
        int n = numbers.plus(numbers.times(cut.a, cut.a), numbers.times(cut.b, cut.b));
        int e = numbers.minus(cut.c, numbers.plus(numbers.times(cut.a, x), numbers.times(cut.b, y)));
        cut.x = x;
        cut.y = y;
        cut.e = e;
        // Circles round one centre FAIL here: A and B are 0, so N is, which has no inverse.
        cut.m = numbers.inverted(n);
        return numbers.minus(numbers.times(squareOf(circle), n), numbers.times(e, e));
    }

    private void drawCut(int o, int root) {
        int along = numbers.times(cut.e, cut.m);
        int across = numbers.times(root, cut.m);
        int x = numbers.plus(cut.x, numbers.times(cut.a, along));
        int y = numbers.plus(cut.y, numbers.times(cut.b, along));
        int stepX = numbers.times(numbers.negated(cut.b), across);
        int stepY = numbers.times(cut.a, across);
        boolean less = third[o] == 0;
        numbers.copy(less ? numbers.minus(x, stepX) : numbers.plus(x, stepX), xOf(o));
        numbers.copy(less ? numbers.minus(y, stepY) : numbers.plus(y, stepY), yOf(o));
    }

    private boolean liesOnLine(int p, int line) {
        int c = numbers.plus(numbers.times(lineA(line), xOf(p)), numbers.times(lineB(line), yOf(p)));
        return numbers.alike(c, lineC(line));
    }

    private boolean coincide(int p, int q) {
        return numbers.alike(xOf(p), xOf(q)) && numbers.alike(yOf(p), yOf(q));
    }

    private int squareOfDistance(int p, int q) {
        int u = numbers.minus(xOf(q), xOf(p));
        int v = numbers.minus(yOf(q), yOf(p));
        return numbers.plus(numbers.times(u, u), numbers.times(v, v));
    }

    private void place(int point, int a, int b, int c, int d) {
        numbers.begin();
        numbers.copy(numbers.quotient(a, b), xOf(point));
        numbers.copy(numbers.quotient(c, d), yOf(point));
    }

    private void copyPlace(int from, int to) {
        numbers.copy(xOf(from), xOf(to));
        numbers.copy(yOf(from), yOf(to));
    }

    private static int xOf(int point) {
        return Numbers.home(point * NUMBERS_PER_OBJECT);
    }

    private static int yOf(int point) {
        return Numbers.home(point * NUMBERS_PER_OBJECT + 1);
    }

    private static int lineA(int line) {
        return Numbers.home(line * NUMBERS_PER_OBJECT);
    }

    private static int lineB(int line) {
        return Numbers.home(line * NUMBERS_PER_OBJECT + 1);
    }

    private static int lineC(int line) {
        return Numbers.home(line * NUMBERS_PER_OBJECT + 2);
    }

    private static int squareOf(int circle) {
        return Numbers.home(circle * NUMBERS_PER_OBJECT);
    }

    /** A line that cuts a circle: what has to be known again once the root has been taken. */
    private static final class Cut {
        private int a;
        private int b;
        private int c;
        private int x;
        private int y;
        private int e;
        private int m;
    }

    /**
     * The numbers and what is worked out with them. A number is told by the index of the first of
     * its four fractions. Those beyond its level are 0 / 1, so that (x, 0) looks just as x does, and
     * nothing has to be written when the DEPTH grows. The two RADICANDS come first, then the numbers
     * of the objects, then those of the work under way, which are given up by begin().
     *
     * <p>What FAILS is only marked, and the work goes on with 0 in its place: so every way out of it
     * is an ordinary one, and whoever began the work looks at the mark.
     */
    private static final class Numbers {
        private static final int SIZE = 4;
        private static final int DEEPEST = 2;
        private static final int WIDEST = 2147483647;
        /** More than any work needs: the meeting of two circles at DEPTH 2 takes some 200 at the very most. */
        private static final int WORK_NUMBERS = 256;
        /** Euclid's way with numbers of 63 bits takes at most 91 divisions. */
        private static final int MOST_DIVISIONS = 100;

        private final int[] over;
        private final int[] under;
        private final int work;
        private int next;
        private int depth;
        private boolean failed;

        Numbers(int kept) {
            work = (DEEPEST + kept) * SIZE;
            over = new int[work + WORK_NUMBERS * SIZE];
            under = new int[work + WORK_NUMBERS * SIZE];
        }

        static int radicandOf(int level) {
            return (level - 1) * SIZE;
        }

        /** Where kept number i stands. */
        static int home(int i) {
            return (DEEPEST + i) * SIZE;
        }

        void begin() {
            next = work;
            failed = false;
        }

        int read(int cell, boolean denominator) {
            return denominator ? under[cell] : over[cell];
        }

        void copy(int from, int to) {
            System.arraycopy(over, from, over, to, SIZE);
            System.arraycopy(under, from, under, to, SIZE);
        }

        boolean alike(int x, int y) {
            for (int i = 0; i < SIZE; i++) {
                if (over[x + i] != over[y + i] || under[x + i] != under[y + i]) {
                    return false;
                }
            }
            return true;
        }

        boolean isNought(int x) {
            return isZero(DEEPEST, x);
        }

        int whole(int n) {
            return quotient(n, 1);
        }

        int quotient(int p, int q) {
            int r = reserve();
            put(r, p, q);
            return r;
        }

        int plus(int x, int y) {
            return sum(depth, x, y);
        }

        int minus(int x, int y) {
            return sum(depth, x, negative(depth, y));
        }

        int times(int x, int y) {
            return product(depth, x, y);
        }

        int negated(int x) {
            return negative(depth, x);
        }

        int halved(int x) {
            return half(depth, x);
        }

        int inverted(int x) {
            return inverse(depth, x);
        }

        int signum(int x) {
            return signOf(depth, x);
        }

        /** The root that is TAKEN of x, for which a level may have to be added. */
        int takeRoot(int x) {
            if (signOf(depth, x) < 0) {
                failed = true;
            }
            int w = failed ? NONE : root(depth, x);
            if (w != NONE) {
                return w;
            }
            if (depth == DEEPEST) {
                failed = true;
            }
            return failed ? reserve() : newLevel(x);
        }

        private int newLevel(int x) {
            copy(x, radicandOf(depth + 1));
            int r = reserve();
            over[r + (1 << depth)] = 1;
            depth++;
            return r;
        }

        /** A new number, 0. */
        private int reserve() {
            if (next + SIZE > over.length) {
                failed = true;
                next = work;
            }
            int r = next;
            next += SIZE;
            for (int i = r; i < next; i++) {
                over[i] = 0;
                under[i] = 1;
            }
            return r;
        }

        /** Sets a fraction that is 0 / 1 to p / q, q being above 0. */
        private void put(int cell, long p, long q) {
            if (p == 0 || failed) {
                return;
            }
            long divisor = p < 0 ? -p : p;
            long rest = q;
            for (int i = 0; i < MOST_DIVISIONS && rest != 0; i++) {
                long left = divisor % rest;
                divisor = rest;
                rest = left;
            }
            if (divisor == 0) {
                return;
            }
            long top = p / divisor;
            long bottom = q / divisor;
            if (top > WIDEST || top < -WIDEST || bottom > WIDEST) {
                failed = true;
                return;
            }
            over[cell] = (int) top;
            under[cell] = (int) bottom;
        }

        /** Makes r, which is 0, the pair (a, b), and gives up what has been reserved after it. */
        private int pair(int below, int r, int a, int b) {
            int size = 1 << below;
            System.arraycopy(over, a, over, r, size);
            System.arraycopy(under, a, under, r, size);
            System.arraycopy(over, b, over, r + size, size);
            System.arraycopy(under, b, under, r + size, size);
            next = r + SIZE;
            return r;
        }

        private boolean isZero(int level, int x) {
            for (int i = 0; i < 1 << level; i++) {
                if (over[x + i] != 0) {
                    return false;
                }
            }
            return true;
        }

        private int sum(int level, int x, int y) {
            int r = reserve();
            for (int i = 0; i < 1 << level; i++) {
                long left = (long) over[x + i] * under[y + i];
                long right = (long) over[y + i] * under[x + i];
                put(r + i, left + right, (long) under[x + i] * under[y + i]);
            }
            return r;
        }

        private int negative(int level, int x) {
            int r = reserve();
            for (int i = 0; i < 1 << level; i++) {
                over[r + i] = -over[x + i];
                under[r + i] = under[x + i];
            }
            return r;
        }

        private int half(int level, int x) {
            int r = reserve();
            for (int i = 0; i < 1 << level; i++) {
                put(r + i, over[x + i], 2L * under[x + i]);
            }
            return r;
        }

        private int product(int level, int x, int y) {
            int r = reserve();
            // Nothing is TOO WIDE in a product with 0, and many parts are 0.
            if (isZero(level, x) || isZero(level, y)) {
                return r;
            }
            if (level <= 0) {
                put(r, (long) over[x] * over[y], (long) under[x] * under[y]);
                return r;
            }
            int below = level - 1;
            int b = x + (1 << below);
            int d = y + (1 << below);
            int bdr = product(below, product(below, b, d), radicandOf(level));
            int plain = sum(below, product(below, x, y), bdr);
            int rooted = sum(below, product(below, x, d), product(below, b, y));
            return pair(below, r, plain, rooted);
        }

        /** 0 FAILS. */
        private int inverse(int level, int x) {
            int r = reserve();
            if (isZero(level, x)) {
                failed = true;
                return r;
            }
            if (level <= 0) {
                over[r] = over[x] < 0 ? -under[x] : under[x];
                under[r] = over[x] < 0 ? -over[x] : over[x];
                return r;
            }
            int below = level - 1;
            int b = x + (1 << below);
            // a * a - (b * b) * R stands here, in signOf() and in root(), lest calls go more than eight deep.
            int bbr = product(below, product(below, b, b), radicandOf(level));
            int m = inverse(below, sum(below, product(below, x, x), negative(below, bbr)));
            return pair(below, r, product(below, x, m), product(below, negative(below, b), m));
        }

        private int signOf(int level, int x) {
            if (level <= 0) {
                return Integer.compare(over[x], 0);
            }
            int below = level - 1;
            int b = x + (1 << below);
            int s = signOf(below, x);
            int t = signOf(below, b);
            if (t == 0 || t == s) {
                return s;
            }
            if (s == 0) {
                return t;
            }
            int bbr = product(below, product(below, b, b), radicandOf(level));
            return s * signOf(below, sum(below, product(below, x, x), negative(below, bbr)));
        }

        /** The ROOT of x, which is not below 0, or NONE. */
        private int root(int level, int x) {
            if (level <= 0) {
                return rootOfFraction(x);
            }
            int below = level - 1;
            int b = x + (1 << below);
            if (isZero(below, b)) {
                int plain = root(below, x);
                if (plain != NONE) {
                    return pair(below, reserve(), plain, reserve());
                }
                int rooted = root(below, product(below, x, inverse(below, radicandOf(level))));
                return rooted == NONE ? NONE : pair(below, reserve(), reserve(), rooted);
            }
            int bbr = product(below, product(below, b, b), radicandOf(level));
            int square = sum(below, product(below, x, x), negative(below, bbr));
            int n = signOf(below, square) < 0 ? NONE : root(below, square);
            if (n == NONE) {
                return NONE;
            }
            for (int turn = 0; turn < 2; turn++) {
                int h = half(below, sum(below, x, turn == 0 ? n : negative(below, n)));
                int w = signOf(below, h) > 0 ? root(below, h) : NONE;
                if (w != NONE) {
                    int v = product(below, b, inverse(below, sum(below, w, w)));
                    int r = pair(below, reserve(), w, v);
                    return signOf(level, r) < 0 ? negative(level, r) : r;
                }
            }
            return NONE;
        }

        private int rootOfFraction(int x) {
            int p = rootOfWhole(over[x]);
            int q = rootOfWhole(under[x]);
            if (p == NONE || q == NONE) {
                return NONE;
            }
            int r = reserve();
            over[r] = p;
            under[r] = q;
            return r;
        }

        /** The root of a square, or NONE. */
        private static int rootOfWhole(int square) {
            int root = 0;
            for (int bit = 1 << 15; bit > 0; bit >>= 1) {
                long longer = root + bit;
                if (longer * longer <= square) {
                    root += bit;
                }
            }
            return root * root == square ? root : NONE;
        }
    }
}
