/** Compares answers with those that are due, and tells at the end how many were not. */
final class Check {
    interface Call {
        void make();
    }

    private final String name;
    private int passed = 0;
    private int failed = 0;

    Check(String name) {
        this.name = name;
    }

    void due(String what, long got, long want) {
        if (got == want) {
            passed++;
        } else {
            failed++;
            System.out.println(name + ": " + what + " answered " + got + ", due is " + want);
        }
    }

    void badArgument(String what, Call call) {
        dueThrow(what, call, IllegalArgumentException.class);
    }

    void badState(String what, Call call) {
        dueThrow(what, call, IllegalStateException.class);
    }

    void badIndex(String what, Call call) {
        dueThrow(what, call, IndexOutOfBoundsException.class);
    }

    /** What was sent i before the latest. */
    void out(String what, LinkHost host, int i, int kind, int to, int x) {
        due(what + ": kind", host.outKind(i), kind);
        due(what + ": to", host.outTo(i), to);
        due(what + ": x", host.outX(i), x);
    }

    private void dueThrow(String what, Call call, Class<?> wanted) {
        Class<?> thrown = null;
        try {
            call.make();
        } catch (RuntimeException e) {
            thrown = e.getClass();
        }
        if (thrown == wanted) {
            passed++;
        } else {
            failed++;
            System.out.println(name + ": " + what + " threw " + thrown + ", due is " + wanted);
        }
    }

    void end() {
        System.out.println(name + ": " + passed + " as due, " + failed + " not as due");
        if (failed != 0) {
            System.exit(1);
        }
    }
}
