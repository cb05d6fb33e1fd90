/** Counts what a test program checks, and prints what is not as it is due. */
final class Checks {
    /** A call whose answer is a number. */
    interface Call {
        int answer();
    }

    private final String program;
    private int passed;
    private int failed;

    Checks(String program) {
        this.program = program;
    }

    void same(String what, long due, long got) {
        count(due == got, what + " answered " + got + ", due is " + due);
    }

    void holds(String what, boolean holds) {
        count(holds, what);
    }

    void outOfBounds(String what, Call call) {
        throwsJust(what, IndexOutOfBoundsException.class, call);
    }

    void badArgument(String what, Call call) {
        throwsJust(what, IllegalArgumentException.class, call);
    }

    void badState(String what, Call call) {
        throwsJust(what, IllegalStateException.class, call);
    }

    private void throwsJust(String what, Class<? extends RuntimeException> due, Call call) {
        String got;
        try {
            got = "answered " + call.answer();
        } catch (RuntimeException e) {
            got = e.getClass() == due ? "" : "threw " + e;
        }
        count(got.isEmpty(), what + " " + got + ", due is " + due.getSimpleName());
    }

    private void count(boolean right, String message) {
        if (right) {
            passed++;
        } else {
            failed++;
            System.out.println(program + ": " + message);
        }
    }

    /** Ends the program, with exit code 1 if a check failed. */
    void end() {
        System.out.println(program + ": " + passed + " checks right, " + failed + " wrong");
        System.exit(failed == 0 && passed > 0 ? 0 : 1);
    }
}
