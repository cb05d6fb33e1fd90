/** Promises 1 to 3: a new object, setFile, setBase. */
final class FilesAndBasesTest {
    private static final Checks CHECKS = new Checks("FilesAndBasesTest");
    private static final int NONE = LayeredImages.NONE;

    public static void main(String[] args) {
        promise1AllIsEmpty();
        promise1NothingCanBeAskedOfLayers();
        promise1ObjectsAreApart();
        promise2AnswersTheContentBefore();
        promise2Edges();
        promise2WrongInputsChangeNothing();
        promise3AnswersWhatWasShownBefore();
        promise3LayersStay();
        promise3WrongInputsChangeNothing();
        CHECKS.end();
    }

    private static void promise1AllIsEmpty() {
        LayeredImages x = new LayeredImages();
        CHECKS.same("NONE", -1, LayeredImages.NONE);
        CHECKS.same("WHITEOUT", -2, LayeredImages.WHITEOUT);
        for (int recipe = 0; recipe < 4; recipe++) {
            CHECKS.same("instructions of a new recipe", 0, x.instructions(recipe));
            CHECKS.same("cleanDigest of a new recipe", 1, x.cleanDigest(recipe));
        }
        for (int tag = 0; tag < 5; tag++) {
            CHECKS.same("tagged of a new tag", NONE, x.tagged(tag));
        }
        CHECKS.same("new layers", 0, x.layers());
        CHECKS.same("new hits", 0, x.hits());
        CHECKS.same("new misses", 0, x.misses());
        CHECKS.same("new stepsLeft", 0, x.stepsLeft());
        CHECKS.same("new built", NONE, x.built());
        CHECKS.same("prune of nothing", 0, x.prune());
        for (int file = 0; file < 8; file++) {
            CHECKS.same("a new file", NONE, x.setFile(file, NONE));
        }
        for (int base = 0; base < 3; base++) {
            for (int path = 0; path < 12; path++) {
                CHECKS.same("a new base", NONE, x.setBase(base, path, NONE));
            }
        }
    }

    private static void promise1NothingCanBeAskedOfLayers() {
        LayeredImages x = new LayeredImages();
        CHECKS.outOfBounds("depth(0) of a new object", () -> x.depth(0));
        CHECKS.badState("step() of a new object", x::step);
        CHECKS.badState("tag(0) of a new object", () -> x.tag(0));
        for (int recipe = 0; recipe < 4; recipe++) {
            CHECKS.same("a new recipe stands on base 0", 0, x.start(recipe));
        }
        CHECKS.same("one root layer", 1, x.layers());
    }

    private static void promise1ObjectsAreApart() {
        LayeredImages first = new LayeredImages();
        LayeredImages second = new LayeredImages();
        first.setFile(0, 5);
        first.setBase(1, 1, 6);
        first.addRun(2, 0, 0);
        first.build(2);
        first.tag(3);
        new LayeredImages();
        CHECKS.same("a file of another object", NONE, second.setFile(0, 1));
        CHECKS.same("a base of another object", NONE, second.setBase(1, 1, 1));
        CHECKS.same("a recipe of another object", 0, second.instructions(2));
        CHECKS.same("layers of another object", 0, second.layers());
        CHECKS.same("misses of another object", 0, second.misses());
        CHECKS.same("the build of another object", NONE, second.built());
        CHECKS.same("a tag of another object", NONE, second.tagged(3));
        CHECKS.same("the file stays", 5, first.setFile(0, 5));
        CHECKS.same("the base stays", 6, first.setBase(1, 1, 6));
        CHECKS.same("the recipe stays", 1, first.instructions(2));
        CHECKS.same("the layers stay", 2, first.layers());
        CHECKS.same("the tag stays", 1, first.tagged(3));
    }

    private static void promise2AnswersTheContentBefore() {
        LayeredImages x = new LayeredImages();
        CHECKS.same("first content", NONE, x.setFile(3, 12));
        CHECKS.same("second content", 12, x.setFile(3, 13));
        CHECKS.same("missing again", 13, x.setFile(3, NONE));
        CHECKS.same("after missing", NONE, x.setFile(3, 1));
        CHECKS.same("the file beside it", NONE, x.setFile(4, 1));
    }

    private static void promise2Edges() {
        LayeredImages x = new LayeredImages();
        CHECKS.same("lowest file", NONE, x.setFile(0, 0));
        CHECKS.same("lowest content", 0, x.setFile(0, 9999));
        CHECKS.same("highest content", 9999, x.setFile(0, 1));
        CHECKS.same("highest file", NONE, x.setFile(7, 9999));
        CHECKS.same("highest file again", 9999, x.setFile(7, 0));
    }

    private static void promise2WrongInputsChangeNothing() {
        LayeredImages x = new LayeredImages();
        x.setFile(0, 7);
        x.setFile(7, 8);
        CHECKS.outOfBounds("setFile(-1)", () -> x.setFile(-1, 0));
        CHECKS.outOfBounds("setFile(8)", () -> x.setFile(8, 0));
        CHECKS.outOfBounds("setFile(MIN)", () -> x.setFile(Integer.MIN_VALUE, 0));
        CHECKS.outOfBounds("setFile(MAX)", () -> x.setFile(Integer.MAX_VALUE, 0));
        CHECKS.outOfBounds("setFile, both wrong", () -> x.setFile(8, 10000));
        CHECKS.badArgument("setFile(0, WHITEOUT)", () -> x.setFile(0, LayeredImages.WHITEOUT));
        CHECKS.badArgument("setFile(0, 10000)", () -> x.setFile(0, 10000));
        CHECKS.badArgument("setFile(0, MIN)", () -> x.setFile(0, Integer.MIN_VALUE));
        CHECKS.badArgument("setFile(0, MAX)", () -> x.setFile(0, Integer.MAX_VALUE));
        CHECKS.same("file 0 stays", 7, x.setFile(0, 7));
        CHECKS.same("file 7 stays", 8, x.setFile(7, 8));
    }

    private static void promise3AnswersWhatWasShownBefore() {
        LayeredImages x = new LayeredImages();
        CHECKS.same("lowest base and path", NONE, x.setBase(0, 0, 0));
        CHECKS.same("lowest content", 0, x.setBase(0, 0, 9999));
        CHECKS.same("highest content", 9999, x.setBase(0, 0, NONE));
        CHECKS.same("none again", NONE, x.setBase(0, 0, 4));
        CHECKS.same("highest base and path", NONE, x.setBase(2, 11, 9999));
        CHECKS.same("highest base and path again", 9999, x.setBase(2, 11, 3));
        CHECKS.same("another base", NONE, x.setBase(1, 0, 1));
        CHECKS.same("another path", NONE, x.setBase(0, 1, 1));
    }

    private static void promise3LayersStay() {
        LayeredImages x = new LayeredImages();
        x.setBase(0, 4, 40);
        int root = x.start(0);
        x.setBase(0, 4, 41);
        CHECKS.same("the old root layer stays", 40, x.shownAt(root, 4));
        CHECKS.same("held stays", 40, x.heldAt(root, 4));
        CHECKS.same("the next root layer", 1, x.start(0));
        CHECKS.same("it shows the new content", 41, x.shownAt(1, 4));
    }

    private static void promise3WrongInputsChangeNothing() {
        LayeredImages x = new LayeredImages();
        x.setBase(0, 0, 7);
        CHECKS.outOfBounds("setBase(-1, 0)", () -> x.setBase(-1, 0, 0));
        CHECKS.outOfBounds("setBase(3, 0)", () -> x.setBase(3, 0, 0));
        CHECKS.outOfBounds("setBase(0, -1)", () -> x.setBase(0, -1, 0));
        CHECKS.outOfBounds("setBase(0, 12)", () -> x.setBase(0, 12, 0));
        CHECKS.outOfBounds("setBase, base and content", () -> x.setBase(3, 0, 10000));
        CHECKS.outOfBounds("setBase, path and content", () -> x.setBase(0, 12, -2));
        CHECKS.badArgument("setBase(0, 0, -2)", () -> x.setBase(0, 0, -2));
        CHECKS.badArgument("setBase(0, 0, 10000)", () -> x.setBase(0, 0, 10000));
        CHECKS.same("the base stays", 7, x.setBase(0, 0, 7));
    }
}
