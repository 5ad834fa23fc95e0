import java.util.function.Predicate;

/** Compares answers with those that are due, and tells at the end how many were not. */
final class Check {
    interface Call {
        void make();
    }

    private final String name;
    private String words = "";
    private int passed = 0;
    private int failed = 0;

    Check(String name) {
        this.name = name;
    }

    /** The words of the document that the checks are about from now on. */
    void under(String wordsOfTheDocument) {
        words = " \"" + wordsOfTheDocument + "\"";
    }

    void due(String what, long got, long want) {
        note(got == want, what + " answered " + got + ", due is " + want);
    }

    void holds(String what, boolean asDue) {
        note(asDue, what + " does not hold");
    }

    void same(String what, String got, String want) {
        note(got.equals(want), what + " is " + got + ", due is " + want);
    }

    void badArgument(String what, Call call) {
        dueThrow(what, call, IllegalArgumentException.class);
    }

    void badState(String what, Call call) {
        dueThrow(what, call, IllegalStateException.class);
    }

    void badIndex(String what, Call call) {
        dueThrow(what, call, IndexOutOfBoundsException.class);
    }

    void goesThrough(String what, Call call) {
        dueThrow(what, call, null);
    }

    /** The call throws nothing, or one of a class that may come, by a throw of LinkHost. */
    void throwsAtMost(String what, Call call, Predicate<Class<?>> mayCome) {
        try {
            call.make();
        } catch (RuntimeException e) {
            note(mayCome.test(e.getClass()) && isThrownByTheClass(e), what + " threw " + e);
            return;
        }
        note(true, what);
    }

    /** What was sent i before the latest. */
    void out(String what, LinkHost host, int i, int kind, int to, int x) {
        due(what + ": kind", host.outKind(i), kind);
        due(what + ": to", host.outTo(i), to);
        due(what + ": x", host.outX(i), x);
    }

    private void dueThrow(String what, Call call, Class<?> wanted) {
        Class<?> thrown = null;
        boolean byItself = false;
        try {
            call.make();
        } catch (RuntimeException e) {
            thrown = e.getClass();
            byItself = !isThrownByTheClass(e);
        }
        note(thrown == wanted, what + " threw " + thrown + ", due is " + wanted);
        if (byItself) {
            note(false, what + " threw by itself, not by a throw statement of the class");
        }
    }

    /** Rule 7 of LANGUAGE.md: what the library throws is not as due, even if its kind is. */
    private static boolean isThrownByTheClass(RuntimeException e) {
        StackTraceElement[] trace = e.getStackTrace();
        return trace.length > 0 && trace[0].getClassName().equals("LinkHost");
    }

    private void note(boolean asDue, String told) {
        if (asDue) {
            passed++;
        } else {
            failed++;
            System.out.println(name + words + ": " + told);
        }
    }

    void end() {
        System.out.println(name + ": " + passed + " as due, " + failed + " not as due");
        if (failed != 0) {
            System.exit(1);
        }
    }
}
