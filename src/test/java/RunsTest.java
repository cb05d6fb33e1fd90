import java.lang.reflect.InvocationTargetException;
import java.lang.reflect.Method;
import java.util.Arrays;
import java.util.List;
import java.util.Random;

/** Long mixed runs of calls, each answer compared with that of PlainImages (all promises). */
final class RunsTest {
    private static final Checks CHECKS = new Checks("RunsTest");
    private static final int RUNS = 3000;
    private static final int CALLS_OF_A_RUN = 512;
    private static final int[] ODD =
            {-1, -2, 3, 4, 5, 8, 12, 400, 1000, 10000, Integer.MAX_VALUE, Integer.MIN_VALUE};

    /**
     * A method, what its arguments are (a letter each, see boundOf), and how often it is called in
     * runs that are mixed, that grow to the limit of layers, and that find layers in the cache.
     */
    private record Kind(String name, String arguments, int... often) { }

    private static final List<Kind> KINDS = List.of(
            new Kind("setFile", "fc", 4, 1, 3),
            new Kind("setBase", "bpc", 4, 40, 1),
            new Kind("reset", "rb", 1, 0, 1),
            new Kind("addCopy", "rfp", 4, 0, 3),
            new Kind("addRun", "rpv", 4, 20, 2),
            new Kind("addMove", "rpp", 4, 0, 2),
            new Kind("addRemove", "rp", 3, 0, 1),
            new Kind("addSet", "rvn", 3, 2, 1),
            new Kind("drop", "ri", 2, 0, 2),
            new Kind("instructions", "r", 1, 0, 0),
            new Kind("start", "r", 4, 2, 1),
            new Kind("step", "", 8, 40, 4),
            new Kind("build", "r", 5, 30, 30),
            new Kind("stepsLeft", "", 2, 1, 1),
            new Kind("built", "", 2, 1, 1),
            new Kind("hits", "", 1, 1, 1),
            new Kind("misses", "", 1, 1, 1),
            new Kind("cleanDigest", "r", 2, 1, 2),
            new Kind("tag", "t", 4, 6, 4),
            new Kind("untag", "t", 1, 0, 2),
            new Kind("tagged", "t", 2, 1, 1),
            new Kind("squash", "tk", 4, 4, 3),
            new Kind("rebase", "tb", 3, 20, 2),
            new Kind("prune", "", 1, 0, 3),
            new Kind("layers", "", 2, 1, 1),
            new Kind("parentOf", "l", 2, 1, 2),
            new Kind("sizeOf", "l", 2, 1, 2),
            new Kind("heldAt", "lp", 6, 2, 3),
            new Kind("shownAt", "lp", 6, 2, 3),
            new Kind("variable", "lv", 4, 1, 1),
            new Kind("depth", "l", 2, 1, 1),
            new Kind("imageSize", "l", 2, 1, 1),
            new Kind("digest", "l", 4, 2, 2));

    public static void main(String[] args) throws ReflectiveOperationException {
        int closed = 0;
        for (int run = 0; run < RUNS; run++) {
            closed += carryOut(run) >= 400 ? 1 : 0;
        }
        CHECKS.holds("many runs reach 400 layers: " + closed, closed > RUNS / 10);
        CHECKS.end();
    }

    /** Answers how many layers the run has made, 0 if an answer was wrong. */
    private static int carryOut(int run) throws ReflectiveOperationException {
        Random random = new Random(run);
        LayeredImages real = new LayeredImages();
        PlainImages plain = new PlainImages();
        for (int call = 0; call < CALLS_OF_A_RUN; call++) {
            Kind kind = pick(random, run % 3);
            Object[] arguments = new Object[kind.arguments().length()];
            for (int i = 0; i < arguments.length; i++) {
                int bound = boundOf(kind.arguments().charAt(i), run % 2 == 0, plain.layers());
                arguments[i] = argument(random, bound, kind.arguments().charAt(i));
            }
            String due = answer(plain, kind, arguments);
            String got = answer(real, kind, arguments);
            if (!due.equals(got)) {
                CHECKS.holds("run " + run + ", call " + call + ": " + kind.name()
                        + Arrays.toString(arguments) + " " + got + ", due is " + due, false);
                return 0;
            }
        }
        CHECKS.holds("run " + run, true);
        return plain.layers();
    }

    private static Kind pick(Random random, int sort) {
        int sum = KINDS.stream().mapToInt(kind -> kind.often()[sort]).sum();
        int left = random.nextInt(sum);
        int at = 0;
        while (left >= KINDS.get(at).often()[sort]) {
            left -= KINDS.get(at).often()[sort];
            at++;
        }
        return KINDS.get(at);
    }

    private static int argument(Random random, int bound, char what) {
        if (random.nextInt(60) == 0) {
            return ODD[random.nextInt(ODD.length)];
        }
        boolean missing = what == 'c' && random.nextInt(6) == 0;
        return missing ? -1 : random.nextInt(Math.max(1, bound));
    }

    /** A few numbers alone make more of what is found again; all of them reach the edges. */
    private static int boundOf(char what, boolean few, int made) {
        switch (what) {
            case 'f': return few ? 3 : 8;
            case 'p': return few ? 4 : 12;
            case 'c': return few ? 3 : 10000;
            case 'n': return few ? 2 : 1000;
            case 'b': return 3;
            case 'r': case 'v': return 4;
            case 't': return 5;
            case 'k': return 7;
            case 'i': return 10;
            default: return made + 1;
        }
    }

    private static String answer(Object images, Kind kind, Object[] arguments)
            throws ReflectiveOperationException {
        Class<?>[] types = new Class<?>[arguments.length];
        Arrays.fill(types, int.class);
        Method method = images.getClass().getDeclaredMethod(kind.name(), types);
        try {
            return "answers " + method.invoke(images, arguments);
        } catch (InvocationTargetException e) {
            return "throws." + e.getCause().getClass().getSimpleName();
        }
    }
}
