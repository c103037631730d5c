import java.util.ArrayList;
import java.util.List;
import java.util.function.Function;

/**
 * A RootCompass that notes the calls made on it. So no test goes beyond the 512th call of an object,
 * behind which every answer is free; and what a call has changed can be looked for on other objects
 * that have been through the same calls, however many questions that takes.
 */
final class Watched {
    static final int MOST_CALLS = 512;
    /** More than the calls of any one question of state(). */
    private static final int CALLS_OF_A_QUESTION = 24;

    private final RootCompass real = new RootCompass();
    private final List<Function<RootCompass, Object>> calls = new ArrayList<>();

    int free(int a, int b, int c, int d) {
        return number(r -> r.free(a, b, c, d));
    }

    int line(int p, int q) {
        return number(r -> r.line(p, q));
    }

    int circle(int c, int p, int q) {
        return number(r -> r.circle(c, p, q));
    }

    int middle(int p, int q) {
        return number(r -> r.middle(p, q));
    }

    int meet(int a, int b, int which) {
        return number(r -> r.meet(a, b, which));
    }

    int move(int p, int a, int b, int c, int d) {
        return number(r -> r.move(p, a, b, c, d));
    }

    boolean undo() {
        return truth(r -> r.undo());
    }

    boolean on(int p, int o) {
        return truth(r -> r.on(p, o));
    }

    boolean same(int p, int q) {
        return truth(r -> r.same(p, q));
    }

    boolean equal(int p, int q, int r, int s) {
        return truth(compass -> compass.equal(p, q, r, s));
    }

    int angle(int a, int b) {
        return number(r -> r.angle(a, b));
    }

    int side(int p, int q, int r) {
        return number(compass -> compass.side(p, q, r));
    }

    int sign(int p, boolean y, int n) {
        return number(r -> r.sign(p, y, n));
    }

    int part(int p, boolean y, int i, boolean q) {
        return number(r -> r.part(p, y, i, q));
    }

    int radicand(int k, int i, boolean q) {
        return number(r -> r.radicand(k, i, q));
    }

    int kind(int o) {
        return number(r -> r.kind(o));
    }

    int look(int which) {
        return number(r -> r.look(which));
    }

    int callsLeft() {
        return MOST_CALLS - calls.size();
    }

    private int number(Function<RootCompass, Object> call) {
        return (Integer) noted(call);
    }

    private boolean truth(Function<RootCompass, Object> call) {
        return (Boolean) noted(call);
    }

    private Object noted(Function<RootCompass, Object> call) {
        calls.add(call);
        if (calls.size() > MOST_CALLS) {
            throw new AssertionError("a test goes beyond the call behind which every answer is free");
        }
        return call.apply(real);
    }

    /** The four fractions of a coordinate, as in "1/2 0/1 0/1 0/1". */
    String coordinate(int p, boolean y) {
        noted(r -> r.part(p, y, 0, false));
        return coordinate(again(), p, y);
    }

    String radicand(int k) {
        noted(r -> r.radicand(k, 0, false));
        return radicand(again(), k);
    }

    private static String coordinate(RootCompass r, int p, boolean y) {
        StringBuilder text = new StringBuilder();
        for (int i = 0; i < 4; i++) {
            text.append(i == 0 ? "" : " ").append(r.part(p, y, i, false)).append('/').append(r.part(p, y, i, true));
        }
        return text.toString();
    }

    private static String radicand(RootCompass r, int k) {
        StringBuilder text = new StringBuilder();
        for (int i = 0; i < 4; i++) {
            text.append(i == 0 ? "" : " ").append(r.radicand(k, i, false)).append('/').append(r.radicand(k, i, true));
        }
        return text.toString();
    }

    /** Another object, after the same calls. */
    private RootCompass again() {
        RootCompass other = new RootCompass();
        for (Function<RootCompass, Object> call : calls) {
            Check.answer(() -> call.apply(other));
        }
        return other;
    }

    /**
     * All that can be seen of the object: what is there, every coordinate and RADICAND, and of the
     * numbers of lines and circles, what lies on them, their angles, and where they meet.
     */
    String state() {
        RootCompass r = again();
        int[] kinds = new int[r.look(0)];
        int depth = r.look(1);
        List<Function<RootCompass, Object>> questions = new ArrayList<>();
        questions.add(c -> c.look(0) + " objects, " + c.look(2) + " free, DEPTH " + c.look(1));
        for (int level = 1; level <= depth; level++) {
            int k = level;
            questions.add(c -> radicand(c, k));
        }
        for (int i = 0; i < kinds.length; i++) {
            int o = i;
            kinds[o] = r.kind(o);
            questions.add(c -> o + " is a " + c.kind(o));
            if (kinds[o] == 0) {
                questions.add(c -> coordinate(c, o, false) + ", " + coordinate(c, o, true));
            }
        }
        for (int a = 0; a < kinds.length; a++) {
            for (int b = 0; b < kinds.length; b++) {
                addQuestions(questions, kinds, a, b);
            }
        }
        return answers(questions);
    }

    private static void addQuestions(List<Function<RootCompass, Object>> questions, int[] kinds, int a, int b) {
        if (kinds[b] == 0) {
            return;
        }
        if (kinds[a] == 0) {
            questions.add(c -> a + " on " + b + ": " + Check.answer(() -> c.on(a, b)));
            return;
        }
        questions.add(c -> a + " angle " + b + ": " + Check.answer(() -> c.angle(a, b)));
        if (a < b) {
            questions.add(c -> a + " meets " + b + ": " + Check.answer(() -> meeting(c, a, b)));
        }
    }

    private static String meeting(RootCompass r, int a, int b) {
        int o = r.meet(a, b, 0);
        String place = coordinate(r, o, false) + ", " + coordinate(r, o, true);
        r.undo();
        return place;
    }

    private String answers(List<Function<RootCompass, Object>> questions) {
        int atOnce = (MOST_CALLS - calls.size()) / CALLS_OF_A_QUESTION;
        if (atOnce == 0) {
            throw new AssertionError("a test leaves no calls for its questions");
        }
        StringBuilder text = new StringBuilder();
        RootCompass r = null;
        for (int i = 0; i < questions.size(); i++) {
            if (i % atOnce == 0) {
                r = again();
            }
            text.append(questions.get(i).apply(r)).append('\n');
        }
        return text.toString();
    }
}
