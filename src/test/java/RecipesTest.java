/** Promises 4 to 11: reset, the instructions that are added, drop, instructions. */
final class RecipesTest {
    private static final Checks CHECKS = new Checks("RecipesTest");
    private static final int NONE = LayeredImages.NONE;
    private static final int WHITEOUT = LayeredImages.WHITEOUT;

    public static void main(String[] args) {
        promise4ResetEmptiesAndSetsTheBase();
        promise4WrongInputsChangeNothing();
        promise5Copy();
        promise5WrongInputs();
        promise6Run();
        promise6RunAtTheEdges();
        promise6WrongInputs();
        promise7Move();
        promise7WrongInputs();
        promise8Remove();
        promise8WrongInputs();
        promise9Set();
        promise9WrongInputs();
        promises5To9OfAFullRecipe();
        promise10DropMovesThoseBehindUp();
        promise10WrongInputs();
        promise11Instructions();
        CHECKS.end();
    }

    private static void fill(LayeredImages x, int recipe) {
        for (int i = 1; i <= 10; i++) {
            CHECKS.same("instructions while it is filled", i, x.addRun(recipe, 0, 0));
        }
    }

    private static void promise4ResetEmptiesAndSetsTheBase() {
        LayeredImages x = new LayeredImages();
        x.setBase(2, 5, 50);
        x.addRun(0, 0, 0);
        x.addRun(0, 1, 0);
        x.addRun(1, 1, 0);
        CHECKS.same("reset answers how many it had", 2, x.reset(0, 2));
        CHECKS.same("it is empty", 0, x.instructions(0));
        CHECKS.same("another recipe stays", 1, x.instructions(1));
        CHECKS.same("reset of an empty one", 0, x.reset(0, 2));
        int root = x.build(0);
        CHECKS.same("its root layer shows base 2", 50, x.shownAt(root, 5));
        CHECKS.same("the base of another recipe stays", NONE, x.shownAt(x.build(1), 5));
        fill(x, 3);
        CHECKS.same("reset of a full one", 10, x.reset(3, 1));
        CHECKS.same("it takes instructions again", 1, x.addRun(3, 0, 0));
    }

    private static void promise4WrongInputsChangeNothing() {
        LayeredImages x = new LayeredImages();
        x.setBase(0, 0, 9);
        x.addRun(0, 1, 0);
        CHECKS.outOfBounds("reset(-1, 0)", () -> x.reset(-1, 0));
        CHECKS.outOfBounds("reset(4, 0)", () -> x.reset(4, 0));
        CHECKS.outOfBounds("reset(0, -1)", () -> x.reset(0, -1));
        CHECKS.outOfBounds("reset(0, 3)", () -> x.reset(0, 3));
        CHECKS.same("the recipe stays", 1, x.instructions(0));
        CHECKS.same("its base stays", 9, x.shownAt(x.start(0), 0));
    }

    private static void promise5Copy() {
        LayeredImages x = new LayeredImages();
        x.setFile(7, 70);
        x.setFile(0, 5);
        CHECKS.same("first COPY", 1, x.addCopy(3, 7, 11));
        CHECKS.same("second COPY", 2, x.addCopy(3, 0, 0));
        int top = x.build(3);
        CHECKS.same("COPY holds at the highest path", 70, x.heldAt(1, 11));
        CHECKS.same("COPY holds nothing else", 1, x.sizeOf(1));
        CHECKS.same("COPY holds at the lowest path", 5, x.heldAt(top, 0));
        CHECKS.same("what the parent shows is shown", 70, x.shownAt(top, 11));
        CHECKS.same("but not held", NONE, x.heldAt(top, 11));
        x.setFile(0, NONE);
        CHECKS.same("COPY of a missing file fails", NONE, x.build(3));
        CHECKS.same("content 0 is no missing file", NONE, x.setFile(0, 0));
        CHECKS.same("COPY of content 0", 0, x.shownAt(x.build(3), 0));
    }

    private static void promise5WrongInputs() {
        LayeredImages x = new LayeredImages();
        CHECKS.outOfBounds("addCopy(-1, 0, 0)", () -> x.addCopy(-1, 0, 0));
        CHECKS.outOfBounds("addCopy(4, 0, 0)", () -> x.addCopy(4, 0, 0));
        CHECKS.outOfBounds("addCopy(0, -1, 0)", () -> x.addCopy(0, -1, 0));
        CHECKS.outOfBounds("addCopy(0, 8, 0)", () -> x.addCopy(0, 8, 0));
        CHECKS.outOfBounds("addCopy(0, 0, -1)", () -> x.addCopy(0, 0, -1));
        CHECKS.outOfBounds("addCopy(0, 0, 12)", () -> x.addCopy(0, 0, 12));
        CHECKS.same("nothing was added", 0, x.instructions(0));
    }

    private static void promise6Run() {
        LayeredImages x = new LayeredImages();
        x.setBase(0, 2, 100);
        x.addSet(0, 3, 7);
        CHECKS.same("RUN", 2, x.addRun(0, 2, 3));
        CHECKS.same("RUN where none is shown", 3, x.addRun(0, 4, 3));
        CHECKS.same("RUN with another variable", 4, x.addRun(0, 2, 0));
        x.build(0);
        CHECKS.same("31 * 100 + 7 + 1", 3108, x.shownAt(2, 2));
        CHECKS.same("RUN is held", 3108, x.heldAt(2, 2));
        CHECKS.same("RUN holds nothing else", 1, x.sizeOf(2));
        CHECKS.same("31 * 0 + 7 + 1", 8, x.shownAt(3, 4));
        CHECKS.same("(31 * 3108 + 0 + 1) % 10007", (31 * 3108 + 1) % 10007, x.shownAt(4, 2));
        CHECKS.same("the variables stay", 7, x.variable(4, 3));
    }

    private static void promise6RunAtTheEdges() {
        LayeredImages x = new LayeredImages();
        x.setBase(0, 11, 9999);
        x.setBase(0, 0, 0);
        x.addSet(0, 0, 999);
        x.addRun(0, 11, 0);
        x.addRun(0, 0, 3);
        x.addRemove(0, 0);
        x.addRun(0, 0, 1);
        x.build(0);
        CHECKS.same("the highest numbers", (31 * 9999 + 999 + 1) % 10007, x.shownAt(2, 11));
        CHECKS.same("content 0", 1, x.shownAt(3, 0));
        CHECKS.same("behind a WHITEOUT it is 0", 1, x.shownAt(5, 0));
        LayeredImages y = new LayeredImages();
        // 31 * 322 + 23 + 1 is 10006, the highest remainder.
        y.setBase(0, 1, 322);
        y.addSet(0, 2, 23);
        y.addRun(0, 1, 2);
        CHECKS.same("a content above 9999", 10006, y.shownAt(y.build(0), 1));
        y.reset(0, 0);
        y.addSet(0, 2, 24);
        y.addRun(0, 1, 2);
        CHECKS.same("the remainder 0 is a content", 0, y.shownAt(y.build(0), 1));
    }

    private static void promise6WrongInputs() {
        LayeredImages x = new LayeredImages();
        CHECKS.outOfBounds("addRun(-1, 0, 0)", () -> x.addRun(-1, 0, 0));
        CHECKS.outOfBounds("addRun(4, 0, 0)", () -> x.addRun(4, 0, 0));
        CHECKS.outOfBounds("addRun(0, -1, 0)", () -> x.addRun(0, -1, 0));
        CHECKS.outOfBounds("addRun(0, 12, 0)", () -> x.addRun(0, 12, 0));
        CHECKS.outOfBounds("addRun(0, 0, -1)", () -> x.addRun(0, 0, -1));
        CHECKS.outOfBounds("addRun(0, 0, 4)", () -> x.addRun(0, 0, 4));
        CHECKS.same("nothing was added", 0, x.instructions(0));
        CHECKS.same("the edges are in", 1, x.addRun(3, 11, 3));
    }

    private static void promise7Move() {
        LayeredImages x = new LayeredImages();
        x.setBase(0, 0, 0);
        x.setBase(0, 11, 5);
        CHECKS.same("MOVE", 1, x.addMove(0, 0, 11));
        int top = x.build(0);
        CHECKS.same("what from showed is held at to", 0, x.heldAt(top, 11));
        CHECKS.same("WHITEOUT at from", WHITEOUT, x.heldAt(top, 0));
        CHECKS.same("none is shown at from", NONE, x.shownAt(top, 0));
        CHECKS.same("just two paths", 2, x.sizeOf(top));
        CHECKS.same("MOVE back", 2, x.addMove(0, 11, 0));
        CHECKS.same("MOVE takes what the parent shows", 0, x.shownAt(x.build(0), 0));
        CHECKS.same("MOVE from a hidden path", 3, x.addMove(0, 11, 3));
        CHECKS.same("it fails", NONE, x.build(0));
        x.drop(0, 2);
        CHECKS.same("MOVE from an empty path", 3, x.addMove(0, 6, 7));
        CHECKS.same("it fails", NONE, x.build(0));
    }

    private static void promise7WrongInputs() {
        LayeredImages x = new LayeredImages();
        CHECKS.outOfBounds("addMove(-1, 0, 1)", () -> x.addMove(-1, 0, 1));
        CHECKS.outOfBounds("addMove(4, 0, 1)", () -> x.addMove(4, 0, 1));
        CHECKS.outOfBounds("addMove(4, 1, 1)", () -> x.addMove(4, 1, 1));
        CHECKS.outOfBounds("addMove(0, -1, 1)", () -> x.addMove(0, -1, 1));
        CHECKS.outOfBounds("addMove(0, 12, 1)", () -> x.addMove(0, 12, 1));
        CHECKS.outOfBounds("addMove(0, 1, -1)", () -> x.addMove(0, 1, -1));
        CHECKS.outOfBounds("addMove(0, 1, 12)", () -> x.addMove(0, 1, 12));
        CHECKS.outOfBounds("addMove(0, 12, 12)", () -> x.addMove(0, 12, 12));
        CHECKS.badArgument("addMove(0, 0, 0)", () -> x.addMove(0, 0, 0));
        CHECKS.badArgument("addMove(0, 11, 11)", () -> x.addMove(0, 11, 11));
        CHECKS.same("nothing was added", 0, x.instructions(0));
    }

    private static void promise8Remove() {
        LayeredImages x = new LayeredImages();
        x.setBase(0, 11, 0);
        CHECKS.same("REMOVE", 1, x.addRemove(0, 11));
        int top = x.build(0);
        CHECKS.same("WHITEOUT is held", WHITEOUT, x.heldAt(top, 11));
        CHECKS.same("none is shown", NONE, x.shownAt(top, 11));
        CHECKS.same("just one path", 1, x.sizeOf(top));
        CHECKS.same("REMOVE again", 2, x.addRemove(0, 11));
        CHECKS.same("it fails", NONE, x.build(0));
        x.reset(0, 0);
        x.addRemove(0, 0);
        CHECKS.same("REMOVE where the base shows none fails", NONE, x.build(0));
    }

    private static void promise8WrongInputs() {
        LayeredImages x = new LayeredImages();
        CHECKS.outOfBounds("addRemove(-1, 0)", () -> x.addRemove(-1, 0));
        CHECKS.outOfBounds("addRemove(4, 0)", () -> x.addRemove(4, 0));
        CHECKS.outOfBounds("addRemove(0, -1)", () -> x.addRemove(0, -1));
        CHECKS.outOfBounds("addRemove(0, 12)", () -> x.addRemove(0, 12));
        CHECKS.same("nothing was added", 0, x.instructions(0));
    }

    private static void promise9Set() {
        LayeredImages x = new LayeredImages();
        CHECKS.same("SET", 1, x.addSet(0, 0, 999));
        CHECKS.same("SET", 2, x.addSet(0, 3, 1));
        CHECKS.same("SET", 3, x.addSet(0, 0, 0));
        x.build(0);
        CHECKS.same("variable 0", 999, x.variable(1, 0));
        CHECKS.same("variable 3 is 0 yet", 0, x.variable(1, 3));
        CHECKS.same("variable 3", 1, x.variable(2, 3));
        CHECKS.same("variable 0 goes on", 999, x.variable(2, 0));
        CHECKS.same("variable 0 is set again", 0, x.variable(3, 0));
        CHECKS.same("variable 3 goes on", 1, x.variable(3, 3));
        CHECKS.same("SET holds nothing", 0, x.sizeOf(1));
    }

    private static void promise9WrongInputs() {
        LayeredImages x = new LayeredImages();
        CHECKS.outOfBounds("addSet(-1, 0, 0)", () -> x.addSet(-1, 0, 0));
        CHECKS.outOfBounds("addSet(4, 0, 1000)", () -> x.addSet(4, 0, 1000));
        CHECKS.outOfBounds("addSet(0, -1, 0)", () -> x.addSet(0, -1, 0));
        CHECKS.outOfBounds("addSet(0, 4, -1)", () -> x.addSet(0, 4, -1));
        CHECKS.badArgument("addSet(0, 0, -1)", () -> x.addSet(0, 0, -1));
        CHECKS.badArgument("addSet(0, 0, 1000)", () -> x.addSet(0, 0, 1000));
        CHECKS.same("nothing was added", 0, x.instructions(0));
    }

    private static void promises5To9OfAFullRecipe() {
        LayeredImages x = new LayeredImages();
        fill(x, 1);
        CHECKS.badState("addCopy to a full recipe", () -> x.addCopy(1, 0, 0));
        CHECKS.badState("addRun to a full recipe", () -> x.addRun(1, 0, 0));
        CHECKS.badState("addMove to a full recipe", () -> x.addMove(1, 0, 1));
        CHECKS.badState("addRemove to a full recipe", () -> x.addRemove(1, 0));
        CHECKS.badState("addSet to a full recipe", () -> x.addSet(1, 0, 0));
        CHECKS.outOfBounds("addCopy, file and full", () -> x.addCopy(1, 8, 0));
        CHECKS.outOfBounds("addRun, variable and full", () -> x.addRun(1, 0, 4));
        CHECKS.outOfBounds("addMove, path and full", () -> x.addMove(1, 0, 12));
        CHECKS.badArgument("addMove, same and full", () -> x.addMove(1, 2, 2));
        CHECKS.outOfBounds("addRemove, path and full", () -> x.addRemove(1, 12));
        CHECKS.outOfBounds("addSet, variable and full", () -> x.addSet(1, 4, 0));
        CHECKS.badArgument("addSet, value and full", () -> x.addSet(1, 0, 1000));
        CHECKS.same("it has 10", 10, x.instructions(1));
        CHECKS.same("another recipe is not full", 1, x.addCopy(2, 0, 0));
        CHECKS.same("all ten are carried out", 11, x.depth(x.build(1)));
        x.drop(1, 9);
        CHECKS.same("with room again", 10, x.addSet(1, 0, 0));
    }

    private static void promise10DropMovesThoseBehindUp() {
        LayeredImages x = new LayeredImages();
        for (int i = 0; i < 10; i++) {
            x.addSet(0, 0, 100 + i);
        }
        CHECKS.same("drop the first", 9, x.drop(0, 0));
        CHECKS.same("the last one moves up", 109, x.variable(x.build(0), 0));
        CHECKS.same("drop in the middle", 8, x.drop(0, 4));
        CHECKS.same("drop the last", 7, x.drop(0, 7));
        int[] due = {101, 102, 103, 104, 106, 107, 108};
        x.start(0);
        for (int value : due) {
            CHECKS.same("value of a step", value, x.variable(x.step(), 0));
        }
        int hits = x.hits();
        CHECKS.same("it is added at the end", 8, x.addSet(0, 0, 5));
        CHECKS.same("and carried out last", 5, x.variable(x.build(0), 0));
        CHECKS.same("the others are found again", hits + 7, x.hits());
    }

    private static void promise10WrongInputs() {
        LayeredImages x = new LayeredImages();
        x.addSet(0, 0, 1);
        CHECKS.outOfBounds("drop(-1, 0)", () -> x.drop(-1, 0));
        CHECKS.outOfBounds("drop(4, 0)", () -> x.drop(4, 0));
        CHECKS.outOfBounds("drop(0, -1)", () -> x.drop(0, -1));
        CHECKS.outOfBounds("drop(0, 1)", () -> x.drop(0, 1));
        CHECKS.outOfBounds("drop of an empty recipe", () -> x.drop(1, 0));
        CHECKS.same("nothing was dropped", 1, x.instructions(0));
        CHECKS.same("drop the only one", 0, x.drop(0, 0));
        CHECKS.outOfBounds("drop once more", () -> x.drop(0, 0));
    }

    private static void promise11Instructions() {
        LayeredImages x = new LayeredImages();
        x.addSet(0, 0, 1);
        x.addRun(0, 0, 1);
        x.addRun(3, 0, 1);
        CHECKS.same("of recipe 0", 2, x.instructions(0));
        CHECKS.same("of recipe 1", 0, x.instructions(1));
        CHECKS.same("of recipe 3", 1, x.instructions(3));
        CHECKS.outOfBounds("instructions(-1)", () -> x.instructions(-1));
        CHECKS.outOfBounds("instructions(4)", () -> x.instructions(4));
        CHECKS.outOfBounds("instructions(MIN)", () -> x.instructions(Integer.MIN_VALUE));
    }
}
