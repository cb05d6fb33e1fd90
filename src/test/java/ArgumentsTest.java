/**
 * Each argument of each call: the least and the greatest that are allowed, the first on either
 * side that is not, and the ends of int. What is not allowed is refused in each state of the
 * object, for its exception comes ahead of IllegalStateException, and changes nothing.
 */
final class ArgumentsTest {
    private static final Checks CHECKS = new Checks("ArgumentsTest");
    private static final int NONE = LayeredImages.NONE;
    private static final Class<IndexOutOfBoundsException> BOUNDS = IndexOutOfBoundsException.class;
    private static final Class<IllegalArgumentException> ARGUMENT = IllegalArgumentException.class;

    /** A call with one argument left open. */
    private interface CallWith {
        int answer(LayeredImages x, int value);
    }

    public static void main(String[] args) {
        promise2SetFile();
        promise3SetBase();
        promise4Reset();
        promise5AddCopy();
        promise6AddRun();
        promise7AddMove();
        promise8AddRemove();
        promise9AddSet();
        promise10Drop();
        promise11Instructions();
        promise12Start();
        promise14Build();
        promise19CleanDigest();
        promises20To22Tags();
        promise23Squash();
        promise24Rebase();
        promises27To34PathsAndVariables();
        promises27To34Layers();
        CHECKS.end();
    }

    private static void range(String call, int least, int greatest,
                              Class<? extends RuntimeException> due, CallWith made) {
        allowed(call, least, made);
        allowed(call, greatest, made);
        refused(call, due, made, least - 1, greatest + 1, Integer.MIN_VALUE, Integer.MAX_VALUE);
    }

    private static void allowed(String call, int value, CallWith made) {
        String got = "";
        try {
            made.answer(Examples.COMPLETE.make(), value);
        } catch (RuntimeException e) {
            got = " threw " + e;
        }
        CHECKS.holds(call + " with " + value + got, got.isEmpty());
    }

    private static void refused(String call, Class<? extends RuntimeException> due, CallWith made,
                                int... values) {
        for (Examples state : Examples.values()) {
            for (int value : values) {
                CHECKS.refused(call + " with " + value, due, state, x -> made.answer(x, value));
            }
        }
    }

    private static void promise2SetFile() {
        range("setFile: file", 0, 7, BOUNDS, (x, file) -> x.setFile(file, 1));
        range("setFile: content", NONE, 9999, ARGUMENT, (x, content) -> x.setFile(0, content));
        allowed("setFile: content", 0, (x, content) -> x.setFile(7, content));
    }

    private static void promise3SetBase() {
        range("setBase: base", 0, 2, BOUNDS, (x, base) -> x.setBase(base, 0, 1));
        range("setBase: path", 0, 11, BOUNDS, (x, path) -> x.setBase(0, path, 1));
        range("setBase: content", NONE, 9999, ARGUMENT, (x, content) -> x.setBase(0, 0, content));
        allowed("setBase: content", 0, (x, content) -> x.setBase(2, 11, content));
    }

    private static void promise4Reset() {
        range("reset: recipe", 0, 3, BOUNDS, (x, recipe) -> x.reset(recipe, 1));
        range("reset: base", 0, 2, BOUNDS, (x, base) -> x.reset(0, base));
    }

    private static void promise5AddCopy() {
        range("addCopy: recipe", 0, 3, BOUNDS, (x, recipe) -> x.addCopy(recipe, 0, 0));
        range("addCopy: file", 0, 7, BOUNDS, (x, file) -> x.addCopy(0, file, 0));
        range("addCopy: path", 0, 11, BOUNDS, (x, path) -> x.addCopy(0, 0, path));
    }

    private static void promise6AddRun() {
        range("addRun: recipe", 0, 3, BOUNDS, (x, recipe) -> x.addRun(recipe, 0, 0));
        range("addRun: path", 0, 11, BOUNDS, (x, path) -> x.addRun(0, path, 0));
        range("addRun: variable", 0, 3, BOUNDS, (x, variable) -> x.addRun(0, 0, variable));
    }

    private static void promise7AddMove() {
        range("addMove: recipe", 0, 3, BOUNDS, (x, recipe) -> x.addMove(recipe, 0, 1));
        range("addMove: from", 0, 11, BOUNDS, (x, from) -> x.addMove(0, from, 5));
        range("addMove: to", 0, 11, BOUNDS, (x, to) -> x.addMove(0, 5, to));
        allowed("addMove: to the path below", 4, (x, to) -> x.addMove(0, 5, to));
        allowed("addMove: to the path above", 6, (x, to) -> x.addMove(0, 5, to));
        for (int path = 0; path < 12; path++) {
            refused("addMove: from and to", ARGUMENT, (x, same) -> x.addMove(0, same, same), path);
        }
    }

    private static void promise8AddRemove() {
        range("addRemove: recipe", 0, 3, BOUNDS, (x, recipe) -> x.addRemove(recipe, 0));
        range("addRemove: path", 0, 11, BOUNDS, (x, path) -> x.addRemove(0, path));
    }

    private static void promise9AddSet() {
        range("addSet: recipe", 0, 3, BOUNDS, (x, recipe) -> x.addSet(recipe, 0, 0));
        range("addSet: variable", 0, 3, BOUNDS, (x, variable) -> x.addSet(0, variable, 0));
        range("addSet: value", 0, 999, ARGUMENT, (x, value) -> x.addSet(0, 0, value));
    }

    /** Recipe 0 has three instructions, recipe 1 ten, recipe 3 none. */
    private static void promise10Drop() {
        allowed("drop: recipe", 0, (x, recipe) -> x.drop(recipe, 0));
        refused("drop: recipe", BOUNDS, (x, recipe) -> x.drop(recipe, 0),
                -1, 4, Integer.MIN_VALUE, Integer.MAX_VALUE);
        range("drop: instruction of three", 0, 2, BOUNDS, (x, place) -> x.drop(0, place));
        allowed("drop: instruction of ten", 0, (x, place) -> x.drop(1, place));
        allowed("drop: instruction of ten", 9, (x, place) -> x.drop(1, place));
        refused("drop: instruction of ten", BOUNDS, (x, place) -> x.drop(1, place), -1, 10, 11);
        refused("drop: instruction of none", BOUNDS, (x, place) -> x.drop(3, place), -1, 0, 1);
    }

    private static void promise11Instructions() {
        range("instructions", 0, 3, BOUNDS, LayeredImages::instructions);
    }

    private static void promise12Start() {
        range("start", 0, 3, BOUNDS, LayeredImages::start);
    }

    private static void promise14Build() {
        range("build", 0, 3, BOUNDS, LayeredImages::build);
    }

    private static void promise19CleanDigest() {
        range("cleanDigest", 0, 3, BOUNDS, LayeredImages::cleanDigest);
    }

    private static void promises20To22Tags() {
        range("tag", 0, 4, BOUNDS, LayeredImages::tag);
        range("untag", 0, 4, BOUNDS, LayeredImages::untag);
        range("tagged", 0, 4, BOUNDS, LayeredImages::tagged);
    }

    /** Tags 0 and 2 stand for an image of four layers, the others for none. */
    private static void promise23Squash() {
        allowed("squash: tag", 0, (x, tag) -> x.squash(tag, 1));
        refused("squash: tag", BOUNDS, (x, tag) -> x.squash(tag, 1),
                -1, 5, Integer.MIN_VALUE, Integer.MAX_VALUE);
        allowed("squash: place", 1, (x, place) -> x.squash(0, place));
        allowed("squash: place", 3, (x, place) -> x.squash(0, place));
        refused("squash: place", BOUNDS, (x, place) -> x.squash(0, place),
                0, -1, Integer.MIN_VALUE);
        for (int place : new int[] {4, 5, Integer.MAX_VALUE}) {
            CHECKS.refused("squash: place " + place, BOUNDS, Examples.COMPLETE,
                    x -> x.squash(0, place));
        }
    }

    private static void promise24Rebase() {
        allowed("rebase: tag", 0, (x, tag) -> x.rebase(tag, 1));
        refused("rebase: tag", BOUNDS, (x, tag) -> x.rebase(tag, 1),
                -1, 5, Integer.MIN_VALUE, Integer.MAX_VALUE);
        range("rebase: base", 0, 2, BOUNDS, (x, base) -> x.rebase(2, base));
    }

    private static void promises27To34PathsAndVariables() {
        range("heldAt: path", 0, 11, BOUNDS, (x, path) -> x.heldAt(0, path));
        range("shownAt: path", 0, 11, BOUNDS, (x, path) -> x.shownAt(0, path));
        range("variable: variable", 0, 3, BOUNDS, (x, variable) -> x.variable(0, variable));
    }

    private static void promises27To34Layers() {
        layers("parentOf", LayeredImages::parentOf);
        layers("sizeOf", LayeredImages::sizeOf);
        layers("heldAt", (x, layer) -> x.heldAt(layer, 11));
        layers("shownAt", (x, layer) -> x.shownAt(layer, 11));
        layers("variable", (x, layer) -> x.variable(layer, 3));
        layers("depth", LayeredImages::depth);
        layers("imageSize", LayeredImages::imageSize);
        layers("digest", LayeredImages::digest);
    }

    private static void layers(String call, CallWith made) {
        allowed(call + ": layer", 0, made);
        allowed(call + ": layer", Examples.LAYERS_THAT_STAY - 1, made);
        refused(call + ": no layer", BOUNDS, made, -1, Integer.MIN_VALUE, Integer.MAX_VALUE);
        CHECKS.refused(call + ": a layer of a new object", BOUNDS, Examples.NEW,
                x -> made.answer(x, 0));
        CHECKS.refused(call + ": a layer that is gone", BOUNDS, Examples.COMPLETE,
                x -> made.answer(x, Examples.LAYERS_THAT_STAY));
        CHECKS.refused(call + ": the layer that is made next", BOUNDS, Examples.COMPLETE,
                x -> made.answer(x, Examples.LAYERS_THAT_WERE_MADE));
    }
}
