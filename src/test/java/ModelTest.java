import java.util.Random;
import java.util.function.Supplier;

/** Runs of calls, drawn by lot from a fixed seed, on RootCompass and on the Model: every answer is the same. */
public final class ModelTest {
    private static final int RUNS = 8000;
    /** What the answers behind the last of these calls on an object are is free. */
    private static final int MOST_CALLS = 512;
    /** Of these calls, so many are kept for a look at everything in the end. */
    private static final int LAST_CALLS = 200;

    private final Random lot;
    private RootCompass compass = new RootCompass();
    private Model model = new Model();
    private final StringBuilder told = new StringBuilder();
    private int wrong;
    private long calls;
    /** Calls on the RootCompass of this run. */
    private int used;
    private final int[] reached = new int[3];
    private final int[] ways = new int[Model.WAYS];
    private int unsupported;
    private int failingMoves;
    private int range;

    private ModelTest(long seed) {
        lot = new Random(seed);
    }

    public static void main(String[] args) {
        ModelTest test = new ModelTest(20261115L);
        for (int run = 0; run < RUNS && test.wrong == 0; run++) {
            test.oneRun(run);
        }
        test.checkCoverage();
        System.out.println("ModelTest: " + test.calls + " calls, " + test.wrong + " wrong");
        if (test.wrong != 0) {
            System.exit(1);
        }
    }

    /** A run that never came to the hard places would prove nothing of them. */
    private void checkCoverage() {
        for (int depth = 0; depth < reached.length; depth++) {
            demand(reached[depth] > 100, "depth " + depth + " was reached " + reached[depth] + " times");
        }
        for (int way = 0; way < ways.length; way++) {
            demand(ways[way] > 20, "way " + way + " of ROOT was gone " + ways[way] + " times");
        }
        demand(unsupported > 500, unsupported + " calls threw UnsupportedOperationException");
        demand(failingMoves > 100, failingMoves + " moves failed");
    }

    private void demand(boolean holds, String what) {
        if (!holds) {
            wrong++;
            System.out.println("too few: " + what);
        }
    }

    private void oneRun(int run) {
        compass = new RootCompass();
        model = new Model();
        told.setLength(0);
        used = 0;
        int[] ranges = {2, 3, 4, 6, 12, 100, 10000};
        range = ranges[run % ranges.length];
        for (int i = 0; i < 3; i++) {
            freePoint();
        }
        while (used < MOST_CALLS - LAST_CALLS && wrong == 0) {
            oneCall();
        }
        compareAll();
        if (used > MOST_CALLS) {
            throw new AssertionError("a run of " + used + " calls");
        }
        reached[model.depth()]++;
        for (int way = 0; way < ways.length; way++) {
            ways[way] += model.ways[way];
        }
    }

    private void oneCall() {
        int choice = lot.nextInt(100);
        if (choice < 40) {
            build();
            compareSome();
        } else if (choice < 50) {
            change();
            compareSome();
        } else {
            ask();
        }
    }

    private void build() {
        int choice = lot.nextInt(20);
        if (choice == 0) {
            freePoint();
        } else if (choice < 4) {
            int p = point();
            int q = point();
            same("line", () -> "" + compass.line(p, q), () -> model.line(p, q), p, q);
        } else if (choice < 8) {
            int c = point();
            int p = point();
            int q = point();
            same("circle", () -> "" + compass.circle(c, p, q), () -> model.circle(c, p, q), c, p, q);
        } else if (choice == 8) {
            int p = point();
            int q = point();
            same("middle", () -> "" + compass.middle(p, q), () -> model.middle(p, q), p, q);
        } else {
            int a = curve();
            int b = curve();
            int which = lot.nextInt(12) == 0 ? lot.nextInt(4) - 1 : lot.nextInt(2);
            int used = model.kind(a) == 1 && model.kind(b) == 1 && lot.nextInt(8) != 0 ? 0 : which;
            same("meet", () -> "" + compass.meet(a, b, used), () -> model.meet(a, b, used), a, b, used);
        }
    }

    private void freePoint() {
        int a = upper();
        int b = lower();
        int c = upper();
        int d = lower();
        same("free", () -> "" + compass.free(a, b, c, d), () -> model.free(a, b, c, d), a, b, c, d);
    }

    private void change() {
        if (lot.nextInt(5) < 2) {
            same("undo", () -> "" + compass.undo(), () -> model.undo());
            return;
        }
        int p = lot.nextInt(3) == 0 ? point() : lot.nextInt(3);
        int a = upper();
        int b = lower();
        int c = upper();
        int d = lower();
        String failing = same("move", () -> "" + compass.move(p, a, b, c, d), () -> model.move(p, a, b, c, d),
                p, a, b, c, d);
        failingMoves += failing.length() < 3 && !failing.equals("-1") ? 1 : 0;
    }

    private void ask() {
        int p = point();
        int q = point();
        int r = point();
        int s = point();
        int a = curve();
        int b = curve();
        boolean y = lot.nextBoolean();
        int n = lot.nextInt(6) == 0 ? lot.nextInt(2000010) - 1000005 : lot.nextInt(2 * range + 1) - range;
        switch (lot.nextInt(6)) {
            case 0:
                same("on", () -> "" + compass.on(p, a), () -> model.on(p, a), p, a);
                break;
            case 1:
                same("same", () -> "" + compass.same(p, q), () -> model.same(p, q), p, q);
                break;
            case 2:
                same("equal", () -> "" + compass.equal(p, q, r, s), () -> model.equal(p, q, r, s), p, q, r, s);
                break;
            case 3:
                same("angle", () -> "" + compass.angle(a, b), () -> model.angle(a, b), a, b);
                break;
            case 4:
                same("side", () -> "" + compass.side(p, q, r), () -> model.side(p, q, r), p, q, r);
                break;
            default:
                same("sign", () -> "" + compass.sign(p, y, n), () -> model.sign(p, y, n), p, y ? 1 : 0, n);
                break;
        }
    }

    /** A little of what can be seen of the state. */
    private void compareSome() {
        compareLooks(lot.nextInt(5) - 1);
        int o = lot.nextInt(model.steps.size() + 2) - 1;
        compareKinds(o);
        compareParts(o, lot.nextInt(6) - 1, lot.nextBoolean(), lot.nextBoolean());
        compareParts(model.steps.size() - 1, lot.nextInt(4), lot.nextBoolean(), lot.nextBoolean());
        compareRadicands(lot.nextInt(4), lot.nextInt(6) - 1, lot.nextBoolean());
    }

    /** Everything that can be seen of the state, as far as the calls reach, the last objects first. */
    private void compareAll() {
        compareLooks(0);
        compareLooks(1);
        compareLooks(2);
        for (int i = 0; i < 16; i++) {
            compareRadicands(1 + i / 8, i / 2 % 4, i % 2 == 1);
        }
        for (int o = model.steps.size() - 1; o >= 0; o--) {
            for (int i = 0; i < 16 && model.kind(o) == 0 && used < MOST_CALLS && wrong == 0; i++) {
                compareParts(o, i % 4, i / 4 % 2 == 1, i / 8 == 1);
            }
        }
    }

    private void compareLooks(int which) {
        quietly("look", () -> "" + compass.look(which), () -> model.look(which), which);
    }

    private void compareKinds(int o) {
        quietly("kind", () -> "" + compass.kind(o), () -> "" + model.kind(o), o);
    }

    private void compareRadicands(int k, int i, boolean q) {
        quietly("radicand", () -> "" + compass.radicand(k, i, q), () -> model.radicand(k, i, q), k, i, q ? 1 : 0);
    }

    private void compareParts(int p, int i, boolean y, boolean q) {
        quietly("part", () -> "" + compass.part(p, y, i, q), () -> model.part(p, y, i, q), p, y ? 1 : 0, i, q ? 1 : 0);
    }

    private int upper() {
        return lot.nextInt(300) == 0 ? (lot.nextBoolean() ? 10001 : -10001) : lot.nextInt(2 * range + 1) - range;
    }

    private int lower() {
        if (lot.nextInt(300) == 0) {
            return lot.nextBoolean() ? 0 : 10001;
        }
        return lot.nextInt(3) == 0 ? 1 + lot.nextInt(range) : 1;
    }

    private int point() {
        return some(0);
    }

    private int curve() {
        return some(1);
    }

    /** A number that is mostly that of a point, or of a line or circle. */
    private int some(int least) {
        int o = lot.nextInt(model.steps.size() + 2) - 1;
        for (int i = 0; i < 40 && lot.nextInt(60) != 0; i++) {
            if (least == 0 ? model.kind(o) == 0 : model.kind(o) >= 1) {
                return o;
            }
            o = lot.nextInt(model.steps.size() + 2) - 1;
        }
        return o;
    }

    private String same(String name, Supplier<String> call, Supplier<String> due, int... arguments) {
        note(name, arguments);
        String answer = quietly(name, call, due, arguments);
        unsupported += answer.equals("UnsupportedOperationException") ? 1 : 0;
        return answer;
    }

    private String quietly(String name, Supplier<String> call, Supplier<String> due, int... arguments) {
        calls++;
        used++;
        String got = answer(call);
        String want = due.get();
        if (!got.equals(want)) {
            if (wrong == 0) {
                note(name, arguments);
                System.out.println(told + "answered " + got + ", due is " + want);
            }
            wrong++;
        }
        return want;
    }

    private void note(String name, int... arguments) {
        told.append(name).append(java.util.Arrays.toString(arguments)).append('\n');
    }

    private static String answer(Supplier<String> call) {
        try {
            return call.get();
        } catch (RuntimeException e) {
            return e.getClass().getSimpleName();
        }
    }
}
