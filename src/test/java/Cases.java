import java.util.Arrays;
import java.util.concurrent.Callable;

/** What the tests with answers that were worked out by hand have in common. */
abstract class Cases {
    static final String ARGUMENT = "IllegalArgumentException";
    static final String STATE = "IllegalStateException";
    static final String UNSUPPORTED = "UnsupportedOperationException";
    static final String INDEX = "IndexOutOfBoundsException";
    static final int LOWEST = Integer.MIN_VALUE;
    static final int HIGHEST = Integer.MAX_VALUE;

    private final Check check;

    Cases(String name) {
        check = new Check(name);
    }

    void end() {
        check.end();
    }

    void due(Object want, String what, Callable<?> call) {
        check.due(want, what, call);
    }

    /** The call gives this answer, or throws this, and changes nothing that can be seen. */
    void refused(Object want, Watched c, String what, Callable<?> call) {
        String[] before = c.state().split("\n");
        due(want, what, call);
        String[] after = c.state().split("\n");
        int i = Arrays.mismatch(before, after);
        due(line(before, i), "after " + what + " the state", () -> line(after, i));
    }

    private static String line(String[] lines, int i) {
        return i >= 0 && i < lines.length ? lines[i] : "nothing more";
    }

    void x(Watched c, int p, String fractions) {
        due(fractions + zeros(fractions), "x of " + p, () -> c.coordinate(p, false));
    }

    void y(Watched c, int p, String fractions) {
        due(fractions + zeros(fractions), "y of " + p, () -> c.coordinate(p, true));
    }

    void radicand(Watched c, int k, String fractions) {
        due(fractions + zeros(fractions), "RADICAND " + k, () -> c.radicand(k));
    }

    private static String zeros(String fractions) {
        return " 0/1".repeat(4 - fractions.split(" ").length);
    }
}
