import java.util.ArrayList;
import java.util.EnumMap;
import java.util.List;
import java.util.Map;

/** Counts what a test program checks, and prints what is not as it is due. */
final class Checks {
    /** A call whose answer is a number. */
    interface Call {
        int answer();
    }

    /** A call on an object that is made for it. */
    interface CallOn {
        int answer(LayeredImages x);
    }

    private final String program;
    private final Map<Examples, List<String>> readings = new EnumMap<>(Examples.class);
    private int passed;
    private int failed;

    Checks(String program) {
        this.program = program;
    }

    void same(String what, long due, long got) {
        count(due == got, what + " answered " + got + ", due is " + due);
    }

    void holds(String what, boolean holds) {
        count(holds, what);
    }

    void outOfBounds(String what, Call call) {
        throwsJust(what, IndexOutOfBoundsException.class, call);
    }

    void badArgument(String what, Call call) {
        throwsJust(what, IllegalArgumentException.class, call);
    }

    void badState(String what, Call call) {
        throwsJust(what, IllegalStateException.class, call);
    }

    /** The call throws just this, and what can be seen of the object is as if it was never made. */
    void refused(String what, Class<? extends RuntimeException> due, Examples state, CallOn call) {
        LayeredImages called = state.make();
        String where = what + " in the state " + state;
        throwsJust(where, due, () -> call.answer(called));
        List<String> got = Reading.of(called);
        List<String> untouched = untouched(state);
        count(got.equals(untouched), where + " changed " + differences(untouched, got));
    }

    private List<String> untouched(Examples state) {
        return readings.computeIfAbsent(state, made -> Reading.of(made.make()));
    }

    private static List<String> differences(List<String> due, List<String> got) {
        List<String> found = new ArrayList<>(got);
        found.removeAll(due);
        return found;
    }

    private void throwsJust(String what, Class<? extends RuntimeException> due, Call call) {
        String got;
        try {
            got = "answered " + call.answer();
        } catch (RuntimeException e) {
            got = e.getClass() == due ? "" : "threw " + e;
        }
        count(got.isEmpty(), what + " " + got + ", due is " + due.getSimpleName());
    }

    private void count(boolean right, String message) {
        if (right) {
            passed++;
        } else {
            failed++;
            System.out.println(program + ": " + message);
        }
    }

    /** Ends the program, with exit code 1 if a check failed. */
    void end() {
        System.out.println(program + ": " + passed + " checks right, " + failed + " wrong");
        System.exit(failed == 0 && passed > 0 ? 0 : 1);
    }
}
