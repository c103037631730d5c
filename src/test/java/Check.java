import java.util.concurrent.Callable;

/** Compares answers with those that are due, and tells the ones that differ. */
final class Check {
    private final String name;
    private int done;
    private int wrong;

    Check(String name) {
        this.name = name;
    }

    /** The call's answer as text, or the name of the exception that it throws. */
    static String answer(Callable<?> call) {
        try {
            return String.valueOf(call.call());
        } catch (Exception e) {
            return e.getClass().getName().replace("java.lang.", "");
        }
    }

    void due(Object want, String what, Callable<?> call) {
        done++;
        String got = answer(call);
        if (!got.equals(String.valueOf(want))) {
            wrong++;
            System.out.println(what + " answered " + got + ", due is " + want);
        }
    }

    void holds(boolean condition, String what) {
        due(true, what, () -> condition);
    }

    void end() {
        System.out.println(name + ": " + done + " checks, " + wrong + " wrong");
        if (wrong != 0) {
            System.exit(1);
        }
    }

    /** All that can be seen of a RootCompass. */
    static String state(RootCompass c) {
        StringBuilder text = new StringBuilder();
        for (int which = 0; which < 3; which++) {
            text.append(c.look(which)).append(' ');
        }
        for (int o = 0; o < c.look(0); o++) {
            text.append('|').append(c.kind(o));
            if (c.kind(o) == 0) {
                text.append(coordinate(c, o, false)).append(coordinate(c, o, true));
            }
        }
        for (int k = 1; k <= c.look(1); k++) {
            text.append('R').append(radicand(c, k));
        }
        return text.toString();
    }

    /** The four fractions of a coordinate, as in "1/2 0/1 0/1 0/1". */
    static String coordinate(RootCompass c, int p, boolean y) {
        StringBuilder text = new StringBuilder();
        for (int i = 0; i < 4; i++) {
            text.append(i == 0 ? "" : " ").append(c.part(p, y, i, false)).append('/').append(c.part(p, y, i, true));
        }
        return text.toString();
    }

    static String radicand(RootCompass c, int k) {
        StringBuilder text = new StringBuilder();
        for (int i = 0; i < 4; i++) {
            text.append(i == 0 ? "" : " ").append(c.radicand(k, i, false)).append('/').append(c.radicand(k, i, true));
        }
        return text.toString();
    }
}
