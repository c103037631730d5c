import java.math.BigInteger;
import java.util.ArrayList;
import java.util.List;

/**
 * The document, word for word and without a thought for speed: numbers are trees of big fractions,
 * and whatever changes an object list is made by drawing everything again from the first object on.
 */
final class Model {
    static final class Fails extends RuntimeException {
        private static final long serialVersionUID = 1L;
    }

    private static final BigInteger WIDEST = BigInteger.valueOf(2147483647);

    interface Num { }

    record Frac(BigInteger p, BigInteger q) implements Num { }

    record Pair(Num a, Num b) implements Num { }

    /** what: 'f' free, 'l' line, 'c' circle, 'm' middle, 'x' meeting; for 'f' the arguments are a, b, c, d. */
    record Step(char what, int a, int b, int c, int d) { }

    final List<Step> steps = new ArrayList<>();
    /** The numbers of each object: x, y of a point, A, B, C of a line, the SQUARE of a circle. */
    final List<Num[]> made = new ArrayList<>();
    final List<Num> radicands = new ArrayList<>();
    /** How often each way through ROOT was gone, so that a test can tell that it came there. */
    final int[] ways = new int[WAYS];

    static final int PLAIN = 0;
    static final int ROOTED = 1;
    static final int NO_PLAIN = 2;
    static final int NORM_BELOW = 3;
    static final int NORM_ROOTLESS = 4;
    static final int FIRST_HALF = 5;
    static final int SECOND_HALF = 6;
    static final int NO_HALF = 7;
    static final int NEGATED = 8;
    static final int WAYS = 9;

    int depth() {
        return radicands.size();
    }

    // Fractions and numbers.

    static Frac frac(BigInteger p, BigInteger q) {
        BigInteger g = p.gcd(q);
        Frac f = new Frac(p.divide(g), q.divide(g));
        if (f.p().abs().compareTo(WIDEST) > 0 || f.q().compareTo(WIDEST) > 0) {
            throw new Fails();
        }
        return f;
    }

    static Frac frac(long p, long q) {
        return frac(BigInteger.valueOf(p), BigInteger.valueOf(q));
    }

    static int level(Num x) {
        return x instanceof Pair pair ? 1 + level(pair.a()) : 0;
    }

    static Num zero(int level) {
        return level == 0 ? frac(0, 1) : new Pair(zero(level - 1), zero(level - 1));
    }

    static Num lift(Num x, int level) {
        Num y = x;
        while (level(y) < level) {
            y = new Pair(y, zero(level(y)));
        }
        return y;
    }

    Num now(Num x) {
        return lift(x, depth());
    }

    Num plus(Num x, Num y) {
        if (x instanceof Pair v && y instanceof Pair w) {
            return new Pair(plus(v.a(), w.a()), plus(v.b(), w.b()));
        }
        Frac v = (Frac) x;
        Frac w = (Frac) y;
        return frac(v.p().multiply(w.q()).add(w.p().multiply(v.q())), v.q().multiply(w.q()));
    }

    Num minus(Num x, Num y) {
        if (x instanceof Pair v && y instanceof Pair w) {
            return new Pair(minus(v.a(), w.a()), minus(v.b(), w.b()));
        }
        Frac v = (Frac) x;
        Frac w = (Frac) y;
        return frac(v.p().multiply(w.q()).subtract(w.p().multiply(v.q())), v.q().multiply(w.q()));
    }

    Num negative(Num x) {
        if (x instanceof Pair v) {
            return new Pair(negative(v.a()), negative(v.b()));
        }
        return frac(((Frac) x).p().negate(), ((Frac) x).q());
    }

    Num times(Num x, Num y) {
        if (x instanceof Pair v && y instanceof Pair w) {
            Num r = radicands.get(level(x) - 1);
            return new Pair(
                    plus(times(v.a(), w.a()), times(times(v.b(), w.b()), r)),
                    plus(times(v.a(), w.b()), times(v.b(), w.a())));
        }
        Frac v = (Frac) x;
        Frac w = (Frac) y;
        return frac(v.p().multiply(w.p()), v.q().multiply(w.q()));
    }

    Num norm(Pair x) {
        Num r = radicands.get(level(x) - 1);
        return minus(times(x.a(), x.a()), times(times(x.b(), x.b()), r));
    }

    Num inverse(Num x) {
        if (x instanceof Pair v) {
            Num m = inverse(norm(v));
            return new Pair(times(v.a(), m), times(negative(v.b()), m));
        }
        Frac f = (Frac) x;
        return f.p().signum() < 0 ? frac(f.q().negate(), f.p().negate()) : frac(f.q(), f.p());
    }

    Num over(Num x, Num y) {
        return times(x, inverse(y));
    }

    Num half(Num x) {
        if (x instanceof Pair v) {
            return new Pair(half(v.a()), half(v.b()));
        }
        return times(x, frac(1, 2));
    }

    boolean isZero(Num x) {
        return x.equals(zero(level(x)));
    }

    int sign(Num x) {
        if (x instanceof Pair v) {
            int s = sign(v.a());
            int t = sign(v.b());
            if (t == 0 || t == s) {
                return s;
            }
            return s == 0 ? t : s * sign(norm(v));
        }
        return ((Frac) x).p().signum();
    }

    /** The ROOT, or null. */
    Num root(Num x) {
        if (!(x instanceof Pair v)) {
            BigInteger p = ((Frac) x).p().sqrt();
            BigInteger q = ((Frac) x).q().sqrt();
            return new Frac(p.multiply(p), q.multiply(q)).equals(x) ? frac(p, q) : null;
        }
        Num zero = zero(level(x) - 1);
        if (isZero(v.b())) {
            Num w = root(v.a());
            if (w != null) {
                ways[PLAIN]++;
                return new Pair(w, zero);
            }
            w = root(over(v.a(), radicands.get(level(x) - 1)));
            ways[w != null ? ROOTED : NO_PLAIN]++;
            return w != null ? new Pair(zero, w) : null;
        }
        Num square = norm(v);
        if (sign(square) < 0) {
            ways[NORM_BELOW]++;
            return null;
        }
        Num n = root(square);
        if (n == null) {
            ways[NORM_ROOTLESS]++;
            return null;
        }
        Num h = half(plus(v.a(), n));
        Num w = sign(h) > 0 ? root(h) : null;
        ways[FIRST_HALF] += w != null ? 1 : 0;
        if (w == null) {
            h = half(minus(v.a(), n));
            w = sign(h) > 0 ? root(h) : null;
            ways[w != null ? SECOND_HALF : NO_HALF]++;
        }
        if (w == null) {
            return null;
        }
        Num found = new Pair(w, over(v.b(), plus(w, w)));
        if (sign(found) < 0) {
            ways[NEGATED]++;
            return negative(found);
        }
        return found;
    }

    Num takeRoot(Num x) {
        if (sign(x) < 0) {
            throw new Fails();
        }
        Num w = root(x);
        if (w != null) {
            return w;
        }
        if (depth() == 2) {
            throw new Fails();
        }
        radicands.add(x);
        for (Num[] numbers : made) {
            for (int i = 0; i < numbers.length; i++) {
                numbers[i] = now(numbers[i]);
            }
        }
        return new Pair(zero(depth() - 1), lift(frac(1, 1), depth() - 1));
    }

    // Objects.

    Num x(int p) {
        return made.get(p)[0];
    }

    Num y(int p) {
        return made.get(p)[1];
    }

    Num square(int p, int q) {
        Num u = minus(x(q), x(p));
        Num v = minus(y(q), y(p));
        return plus(times(u, u), times(v, v));
    }

    Num[] make(Step s) {
        switch (s.what()) {
            case 'f':
                return new Num[] {now(frac(s.a(), s.b())), now(frac(s.c(), s.d()))};
            case 'l': {
                if (x(s.a()).equals(x(s.b())) && y(s.a()).equals(y(s.b()))) {
                    throw new Fails();
                }
                Num a = minus(y(s.b()), y(s.a()));
                Num b = minus(x(s.a()), x(s.b()));
                return new Num[] {a, b, plus(times(a, x(s.a())), times(b, y(s.a())))};
            }
            case 'c': {
                Num square = square(s.b(), s.c());
                if (isZero(square)) {
                    throw new Fails();
                }
                return new Num[] {square};
            }
            case 'm':
                return new Num[] {half(plus(x(s.a()), x(s.b()))), half(plus(y(s.a()), y(s.b())))};
            default:
                return makeMeeting(s);
        }
    }

    Num[] makeMeeting(Step s) {
        boolean lineA = kind(s.a()) == 1;
        boolean lineB = kind(s.b()) == 1;
        Num[] a = made.get(s.a());
        Num[] b = made.get(s.b());
        if (lineA && lineB) {
            Num d = minus(times(a[0], b[1]), times(b[0], a[1]));
            if (isZero(d)) {
                throw new Fails();
            }
            return new Num[] {
                over(minus(times(a[2], b[1]), times(b[2], a[1])), d),
                over(minus(times(a[0], b[2]), times(b[0], a[2])), d)};
        }
        if (lineA) {
            return makeCut(a, s.b(), s.c());
        }
        if (lineB) {
            return makeCut(b, s.a(), s.c());
        }
        int p = steps.get(s.a()).a();
        int q = steps.get(s.b()).a();
        Num d = minus(x(q), x(p));
        Num e = minus(y(q), y(p));
        Num[] line = {plus(d, d), plus(e, e), plus(minus(a[0], b[0]), plus(
                minus(times(x(q), x(q)), times(x(p), x(p))), minus(times(y(q), y(q)), times(y(p), y(p)))))};
        if (isZero(line[0]) && isZero(line[1])) {
            throw new Fails();
        }
        return makeCut(line, s.a(), s.c());
    }

    Num[] makeCut(Num[] line, int circle, int which) {
        int centre = steps.get(circle).a();
        Num a = line[0];
        Num b = line[1];
        Num n = plus(times(a, a), times(b, b));
        Num e = minus(line[2], plus(times(a, x(centre)), times(b, y(centre))));
        Num m = inverse(n);
        Num k = minus(times(made.get(circle)[0], n), times(e, e));
        Num s = takeRoot(k);
        a = now(a);
        b = now(b);
        e = now(e);
        m = now(m);
        Num x = plus(x(centre), times(a, times(e, m)));
        Num y = plus(y(centre), times(b, times(e, m)));
        Num u = times(negative(b), times(s, m));
        Num v = times(a, times(s, m));
        return which == 0 ? new Num[] {minus(x, u), minus(y, v)} : new Num[] {plus(x, u), plus(y, v)};
    }

    /** The first object that FAILS, or -1. */
    int redraw() {
        made.clear();
        radicands.clear();
        for (Step s : steps) {
            try {
                made.add(make(s));
            } catch (Fails e) {
                return made.size();
            }
        }
        return -1;
    }

    // The face. An answer is a number, or the name of an exception.

    private static final String ARGUMENT = "IllegalArgumentException";
    private static final String STATE = "IllegalStateException";
    private static final String UNSUPPORTED = "UnsupportedOperationException";

    int kind(int o) {
        if (o < 0 || o >= steps.size()) {
            return -1;
        }
        char what = steps.get(o).what();
        return what == 'l' ? 1 : what == 'c' ? 2 : 0;
    }

    private boolean arePoints(int... points) {
        for (int p : points) {
            if (kind(p) != 0) {
                return false;
            }
        }
        return true;
    }

    private static boolean isPlace(int a, int b, int c, int d) {
        return Math.abs((long) a) <= 10000 && Math.abs((long) c) <= 10000
                && b >= 1 && b <= 10000 && d >= 1 && d <= 10000;
    }

    private String add(Step s) {
        if (steps.size() >= 24) {
            return STATE;
        }
        steps.add(s);
        if (redraw() >= 0) {
            steps.remove(steps.size() - 1);
            redraw();
            return UNSUPPORTED;
        }
        return String.valueOf(steps.size() - 1);
    }

    String free(int a, int b, int c, int d) {
        return isPlace(a, b, c, d) ? add(new Step('f', a, b, c, d)) : ARGUMENT;
    }

    String line(int p, int q) {
        return arePoints(p, q) ? add(new Step('l', p, q, 0, 0)) : ARGUMENT;
    }

    String circle(int c, int p, int q) {
        return arePoints(c, p, q) ? add(new Step('c', c, p, q, 0)) : ARGUMENT;
    }

    String middle(int p, int q) {
        return arePoints(p, q) ? add(new Step('m', p, q, 0, 0)) : ARGUMENT;
    }

    String meet(int a, int b, int which) {
        if (kind(a) < 1 || kind(b) < 1 || a == b) {
            return ARGUMENT;
        }
        boolean circle = kind(a) == 2 || kind(b) == 2;
        if (which != 0 && !(circle && which == 1)) {
            return ARGUMENT;
        }
        return add(new Step('x', a, b, which, 0));
    }

    String move(int p, int a, int b, int c, int d) {
        if (kind(p) != 0 || steps.get(p).what() != 'f' || !isPlace(a, b, c, d)) {
            return ARGUMENT;
        }
        Step old = steps.set(p, new Step('f', a, b, c, d));
        int failing = redraw();
        if (failing >= 0) {
            steps.set(p, old);
            redraw();
        }
        return String.valueOf(failing);
    }

    String undo() {
        if (steps.isEmpty()) {
            return "false";
        }
        steps.remove(steps.size() - 1);
        redraw();
        return "true";
    }

    String on(int p, int o) {
        if (!arePoints(p) || kind(o) < 1) {
            return ARGUMENT;
        }
        try {
            Num[] n = made.get(o);
            return String.valueOf(kind(o) == 1
                    ? plus(times(n[0], x(p)), times(n[1], y(p))).equals(n[2])
                    : square(steps.get(o).a(), p).equals(n[0]));
        } catch (Fails e) {
            return UNSUPPORTED;
        }
    }

    String same(int p, int q) {
        return arePoints(p, q) ? String.valueOf(x(p).equals(x(q)) && y(p).equals(y(q))) : ARGUMENT;
    }

    String equal(int p, int q, int r, int s) {
        if (!arePoints(p, q, r, s)) {
            return ARGUMENT;
        }
        try {
            return String.valueOf(square(p, q).equals(square(r, s)));
        } catch (Fails e) {
            return UNSUPPORTED;
        }
    }

    String angle(int a, int b) {
        if (kind(a) != 1 || kind(b) != 1) {
            return ARGUMENT;
        }
        try {
            Num[] m = made.get(a);
            Num[] n = made.get(b);
            if (times(m[0], n[1]).equals(times(n[0], m[1]))) {
                return "1";
            }
            return isZero(plus(times(m[0], n[0]), times(m[1], n[1]))) ? "2" : "0";
        } catch (Fails e) {
            return UNSUPPORTED;
        }
    }

    String side(int p, int q, int r) {
        if (!arePoints(p, q, r)) {
            return ARGUMENT;
        }
        try {
            return String.valueOf(sign(minus(
                    times(minus(x(q), x(p)), minus(y(r), y(p))), times(minus(y(q), y(p)), minus(x(r), x(p))))));
        } catch (Fails e) {
            return UNSUPPORTED;
        }
    }

    String sign(int p, boolean y, int n) {
        if (!arePoints(p) || n < -1000000 || n > 1000000) {
            return ARGUMENT;
        }
        try {
            return String.valueOf(sign(minus(y ? y(p) : x(p), now(frac(n, 1)))));
        } catch (Fails e) {
            return UNSUPPORTED;
        }
    }

    private static void spread(Num x, List<Frac> into) {
        if (x instanceof Pair v) {
            spread(v.a(), into);
            spread(v.b(), into);
        } else {
            into.add((Frac) x);
        }
    }

    private static String fraction(Num x, int i, boolean q) {
        List<Frac> all = new ArrayList<>();
        spread(x, all);
        Frac f = i < all.size() ? all.get(i) : frac(0, 1);
        return String.valueOf(q ? f.q() : f.p());
    }

    String part(int p, boolean y, int i, boolean q) {
        return arePoints(p) && i >= 0 && i <= 3 ? fraction(y ? y(p) : x(p), i, q) : ARGUMENT;
    }

    String radicand(int k, int i, boolean q) {
        return k >= 1 && k <= depth() && i >= 0 && i <= 3
                ? fraction(radicands.get(k - 1), i, q) : "IndexOutOfBoundsException";
    }

    String look(int which) {
        switch (which) {
            case 0:
                return String.valueOf(steps.size());
            case 1:
                return String.valueOf(depth());
            case 2:
                return String.valueOf(steps.stream().filter(s -> s.what() == 'f').count());
            default:
                return "-1";
        }
    }
}
