import java.util.concurrent.Callable;

/** Compares answers with those that are due, and tells the ones that differ. */
final class Check {
    private final String name;
    private int done;
    private int wrong;

    Check(String name) {
        this.name = name;
    }

    /** The call's answer as text, or the name of the exception that it throws. */
    static String answer(Callable<?> call) {
        try {
            return String.valueOf(call.call());
        } catch (Exception e) {
            return e.getClass().getName().replace("java.lang.", "");
        }
    }

    void due(Object want, String what, Callable<?> call) {
        done++;
        String got = answer(call);
        if (!got.equals(String.valueOf(want))) {
            wrong++;
            System.out.println(what + " answered " + got + ", due is " + want);
        }
    }

    void holds(boolean condition, String what) {
        due(true, what, () -> condition);
    }

    void end() {
        System.out.println(name + ": " + done + " checks, " + wrong + " wrong");
        if (wrong != 0) {
            System.exit(1);
        }
    }
}
