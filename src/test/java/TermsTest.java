/** "Terms": files, layers, recipes and instructions, a test for each sentence with an edge. */
final class TermsTest {
    private static final Checks CHECKS = new Checks("TermsTest");
    private static final int NONE = LayeredImages.NONE;
    private static final int WHITEOUT = LayeredImages.WHITEOUT;

    public static void main(String[] args) {
        filesAreApart();
        basesAndPathsAreApart();
        contentsAreFrom0To9999();
        aRootLayerHoldsWhatItsBaseShows();
        layersAreNumberedInTheOrderInWhichTheyAreMade();
        theSizeIsFrom0To12();
        aLayerShowsWhatItHoldsOrItsParentShows();
        variablesAreFrom0To999AndApart();
        theImageIsFromTheRootLayerToItself();
        recipesAreApart();
        theBaseOfARecipeIs0AtFirst();
        aRecipeHasAtMost10InstructionsOfAnyKind();
        copyHoldsEvenWhatItsParentShows();
        copyFailsIfTheFileIsMissingThen();
        runHoldsEvenWhatItsParentShows();
        runTakes0WhereNoneIsShown();
        runOfTheHighestNumbersAndRemainders();
        moveToAPathWithAndWithoutContent();
        moveAndRemoveFailWhereNoneIsShown();
        moveAndRemoveOfTheContent0();
        setMakesALayerWithAnEmptyDifference();
        instructionsAtTheHighestNumbers();
        theLast512thCallIsAnswered();
        CHECKS.end();
    }

    private static void filesAreApart() {
        LayeredImages x = new LayeredImages();
        for (int file = 0; file < 8; file++) {
            CHECKS.same("a file is missing at first", NONE, x.setFile(file, 100 + file));
        }
        for (int file = 0; file < 8; file++) {
            x.addCopy(0, file, file);
        }
        int top = x.build(0);
        for (int file = 0; file < 8; file++) {
            CHECKS.same("COPY of each file", 100 + file, x.shownAt(top, file));
            CHECKS.same("each file has its own content", 100 + file, x.setFile(file, NONE));
        }
    }

    private static void basesAndPathsAreApart() {
        LayeredImages x = new LayeredImages();
        for (int base = 0; base < 3; base++) {
            x.reset(base, base);
            for (int path = 0; path < 12; path++) {
                CHECKS.same("none at first", NONE, x.setBase(base, path, 100 * base + path));
            }
        }
        for (int base = 0; base < 3; base++) {
            int root = x.start(base);
            for (int path = 0; path < 12; path++) {
                CHECKS.same("held by the root layer", 100 * base + path, x.heldAt(root, path));
                CHECKS.same("and shown", 100 * base + path, x.shownAt(root, path));
            }
        }
        CHECKS.same("a root layer for each", 3, x.layers());
    }

    private static void contentsAreFrom0To9999() {
        LayeredImages x = new LayeredImages();
        x.setBase(0, 0, 0);
        x.setBase(0, 11, 9999);
        x.setFile(0, 0);
        x.setFile(7, 9999);
        x.addCopy(0, 0, 1);
        x.addCopy(0, 7, 10);
        int top = x.build(0);
        CHECKS.same("content 0 of a base", 0, x.shownAt(top, 0));
        CHECKS.same("content 9999 of a base", 9999, x.shownAt(top, 11));
        CHECKS.same("content 0 of a file", 0, x.shownAt(top, 1));
        CHECKS.same("content 9999 of a file", 9999, x.shownAt(top, 10));
        CHECKS.same("content 0 is held", 0, x.heldAt(1, 1));
        CHECKS.same("and counted", 1, x.sizeOf(1));
        CHECKS.same("in the root layer too", 2, x.sizeOf(0));
    }

    private static void aRootLayerHoldsWhatItsBaseShows() {
        LayeredImages x = new LayeredImages();
        int[] firstAndLast = {0, 11};
        for (int path : firstAndLast) {
            x.setBase(0, path, 5);
            int root = x.start(0);
            for (int asked = 0; asked < 12; asked++) {
                int due = asked == path ? 5 : NONE;
                CHECKS.same("at path " + path + " alone", due, x.heldAt(root, asked));
                CHECKS.same("shown at path " + path + " alone", due, x.shownAt(root, asked));
            }
            CHECKS.same("it has no parent", NONE, x.parentOf(root));
            x.setBase(0, path, NONE);
        }
    }

    private static void layersAreNumberedInTheOrderInWhichTheyAreMade() {
        LayeredImages x = new LayeredImages();
        x.addRun(0, 0, 0);
        x.addRun(0, 1, 0);
        x.setBase(1, 0, 1);
        x.reset(1, 1);
        CHECKS.same("the first root layer", 0, x.start(0));
        CHECKS.same("the first step", 1, x.step());
        CHECKS.same("the second step", 2, x.step());
        CHECKS.same("another root layer", 3, x.start(1));
        CHECKS.same("found ones take no number", 2, x.build(0));
        x.addRemove(2, 5);
        CHECKS.same("failed steps take no number", NONE, x.build(2));
        x.build(0);
        x.tag(0);
        CHECKS.same("a squashed one", 4, x.squash(0, 1));
        CHECKS.same("a moved one", 5, x.rebase(0, 1));
        x.untag(0);
        CHECKS.same("all are pruned", 6, x.prune());
        CHECKS.same("numbers go on behind those that are gone", 6, x.start(0));
        CHECKS.same("step by step", 7, x.step());
    }

    /** Six moves from the even to the odd paths, so that all 12 paths differ from the base. */
    private static void theSizeIsFrom0To12() {
        LayeredImages x = new LayeredImages();
        CHECKS.same("a root layer without contents", 0, x.sizeOf(x.start(3)));
        for (int path = 0; path < 12; path++) {
            x.setBase(1, path, path);
        }
        x.reset(1, 1);
        CHECKS.same("a root layer with all contents", 12, x.sizeOf(x.start(1)));
        for (int path = 0; path < 12; path += 2) {
            x.addMove(1, path, path + 1);
        }
        CHECKS.same("MOVE differs at two paths", 2, x.sizeOf(x.build(1)));
        x.tag(0);
        int squashed = x.squash(0, 1);
        CHECKS.same("a difference at all paths", 12, x.sizeOf(squashed));
        for (int path = 0; path < 12; path += 2) {
            CHECKS.same("WHITEOUT at from", WHITEOUT, x.heldAt(squashed, path));
            CHECKS.same("the content at to", path, x.heldAt(squashed, path + 1));
        }
        x.addSet(3, 0, 1);
        CHECKS.same("no difference", 0, x.sizeOf(x.build(3)));
    }

    private static void aLayerShowsWhatItHoldsOrItsParentShows() {
        LayeredImages x = new LayeredImages();
        x.setBase(0, 4, 40);
        x.setBase(0, 5, 50);
        x.setFile(0, 1);
        x.addCopy(0, 0, 4);
        x.addRemove(0, 4);
        x.addCopy(0, 0, 4);
        x.addSet(0, 0, 1);
        x.build(0);
        int[] shownAtPath4 = {40, 1, NONE, 1, 1};
        int[] heldAtPath4 = {40, 1, WHITEOUT, 1, NONE};
        for (int layer = 0; layer < 5; layer++) {
            CHECKS.same("shown by layer " + layer, shownAtPath4[layer], x.shownAt(layer, 4));
            CHECKS.same("held by layer " + layer, heldAtPath4[layer], x.heldAt(layer, 4));
            CHECKS.same("what the root layer shows", 50, x.shownAt(layer, 5));
            CHECKS.same("what none holds", NONE, x.shownAt(layer, 6));
        }
    }

    private static void variablesAreFrom0To999AndApart() {
        LayeredImages x = new LayeredImages();
        for (int variable = 0; variable < 4; variable++) {
            x.addSet(0, variable, 999 - variable);
        }
        x.addSet(0, 3, 0);
        x.build(0);
        for (int layer = 0; layer <= 4; layer++) {
            for (int variable = 0; variable < 4; variable++) {
                int due = variable < layer ? 999 - variable : 0;
                CHECKS.same("variable in layer " + layer, due, x.variable(layer, variable));
            }
        }
        CHECKS.same("0 again", 0, x.variable(5, 3));
        CHECKS.same("the others stay", 999, x.variable(5, 0));
        x.setBase(1, 0, 1);
        x.reset(1, 1);
        CHECKS.same("a root layer that is made later", 0, x.variable(x.start(1), 0));
    }

    private static void theImageIsFromTheRootLayerToItself() {
        LayeredImages x = new LayeredImages();
        for (int i = 0; i < 10; i++) {
            x.addSet(0, 0, i);
        }
        int part = x.build(0);
        for (int depth = 11; depth >= 1; depth--) {
            CHECKS.same("layers from the root layer on", depth, x.depth(part));
            part = x.parentOf(part);
        }
        CHECKS.same("the root layer has no parent", NONE, part);
    }

    private static void recipesAreApart() {
        LayeredImages x = new LayeredImages();
        for (int recipe = 0; recipe < 4; recipe++) {
            for (int i = 0; i <= recipe; i++) {
                CHECKS.same("added to its own", i + 1, x.addSet(recipe, recipe, 10 + i));
            }
        }
        for (int recipe = 0; recipe < 4; recipe++) {
            CHECKS.same("its own instructions", recipe + 1, x.instructions(recipe));
            CHECKS.same("carried out", 10 + recipe, x.variable(x.build(recipe), recipe));
        }
        CHECKS.same("drop of the highest", 3, x.drop(3, 0));
        CHECKS.same("the others stay", 3, x.instructions(2));
    }

    private static void theBaseOfARecipeIs0AtFirst() {
        LayeredImages x = new LayeredImages();
        for (int base = 0; base < 3; base++) {
            x.setBase(base, 0, 70 + base);
        }
        for (int recipe = 0; recipe < 4; recipe++) {
            CHECKS.same("base 0", 70, x.shownAt(x.start(recipe), 0));
        }
        for (int base = 2; base >= 0; base--) {
            x.reset(3, base);
            CHECKS.same("the base of reset", 70 + base, x.shownAt(x.start(3), 0));
        }
    }

    private static int add(LayeredImages x, int kind) {
        switch (kind) {
            case 0: return x.addCopy(0, 0, 0);
            case 1: return x.addRun(0, 0, 0);
            case 2: return x.addMove(0, 0, 1);
            case 3: return x.addRemove(0, 0);
            default: return x.addSet(0, 0, 0);
        }
    }

    private static void aRecipeHasAtMost10InstructionsOfAnyKind() {
        for (int kind = 0; kind < 5; kind++) {
            LayeredImages x = new LayeredImages();
            for (int i = 0; i < 9; i++) {
                x.addSet(0, 0, i);
            }
            int asked = kind;
            CHECKS.same("the tenth, kind " + kind, 10, add(x, kind));
            CHECKS.badState("the eleventh, kind " + kind, () -> add(x, asked));
            CHECKS.same("it still has 10", 10, x.instructions(0));
            CHECKS.same("drop of the tenth", 9, x.drop(0, 9));
            CHECKS.same("the tenth again, kind " + kind, 10, add(x, kind));
        }
    }

    private static void copyHoldsEvenWhatItsParentShows() {
        LayeredImages x = new LayeredImages();
        x.setBase(0, 2, 20);
        x.setFile(3, 20);
        x.addCopy(0, 3, 2);
        int top = x.build(0);
        CHECKS.same("a layer of its own", 1, top);
        CHECKS.same("told, so in the difference", 20, x.heldAt(top, 2));
        CHECKS.same("its size", 1, x.sizeOf(top));
    }

    private static void copyFailsIfTheFileIsMissingThen() {
        LayeredImages x = new LayeredImages();
        x.setFile(1, 5);
        x.addCopy(0, 1, 0);
        CHECKS.same("it is there", 1, x.build(0));
        x.setFile(1, NONE);
        CHECKS.same("missing, though a layer was made with it", NONE, x.build(0));
        CHECKS.same("it is not found", 0, x.hits());
        x.setFile(1, 0);
        CHECKS.same("content 0 is not missing", 2, x.build(0));
        x.start(0);
        x.setFile(1, NONE);
        CHECKS.same("missing when the step is taken", NONE, x.step());
        x.start(0);
        x.setFile(1, 5);
        CHECKS.same("there when the step is taken", 1, x.step());
    }

    /** 31 * 7672 + 0 + 1 is 23 * 10007 + 7672, so that RUN makes 7672 of 7672. */
    private static void runHoldsEvenWhatItsParentShows() {
        int same = 7672;
        LayeredImages x = new LayeredImages();
        x.setBase(0, 6, same);
        x.addRun(0, 6, 0);
        int top = x.build(0);
        CHECKS.same("the content is the same", same, x.shownAt(top, 6));
        CHECKS.same("told, so in the difference", same, x.heldAt(top, 6));
        CHECKS.same("its size", 1, x.sizeOf(top));
    }

    private static void runTakes0WhereNoneIsShown() {
        LayeredImages x = new LayeredImages();
        x.setBase(0, 0, 0);
        x.setBase(0, 2, 20);
        x.addRun(0, 0, 1);
        x.addRun(0, 1, 1);
        x.addRemove(0, 2);
        x.addRun(0, 2, 1);
        int top = x.build(0);
        CHECKS.same("the content 0", 1, x.shownAt(top, 0));
        CHECKS.same("none is shown", 1, x.shownAt(top, 1));
        CHECKS.same("none, behind a WHITEOUT", 1, x.shownAt(top, 2));
    }

    private static void runOfTheHighestNumbersAndRemainders() {
        int[][] contentsAndValues = {{9999, 999}, {9999, 0}, {0, 999}, {0, 0}, {322, 22},
            {322, 23}, {322, 24}, {322, 25}};
        int[] due = {752, 9760, 1000, 1, 10005, 10006, 0, 1};
        for (int i = 0; i < due.length; i++) {
            LayeredImages x = new LayeredImages();
            x.setBase(0, 11, contentsAndValues[i][0]);
            x.addSet(0, 3, contentsAndValues[i][1]);
            x.addRun(0, 11, 3);
            int top = x.build(0);
            CHECKS.same("RUN number " + i, due[i], x.shownAt(top, 11));
            CHECKS.same("and held", due[i], x.heldAt(top, 11));
        }
        LayeredImages x = new LayeredImages();
        x.setBase(0, 0, 322);
        x.addSet(0, 0, 23);
        x.addRun(0, 0, 0);
        x.addSet(0, 0, 999);
        x.addRun(0, 0, 0);
        CHECKS.same("RUN on 10006", (31 * 10006 + 1000) % 10007, x.shownAt(x.build(0), 0));
    }

    private static void moveToAPathWithAndWithoutContent() {
        LayeredImages x = new LayeredImages();
        x.setBase(0, 0, 1);
        x.setBase(0, 1, 2);
        x.addMove(0, 0, 1);
        x.addMove(0, 1, 11);
        x.addMove(0, 11, 0);
        x.build(0);
        CHECKS.same("to a path with a content", 1, x.heldAt(1, 1));
        CHECKS.same("to a path without one", 1, x.heldAt(2, 11));
        CHECKS.same("to a path that is hidden", 1, x.heldAt(3, 0));
        int[] from = {0, 1, 11};
        for (int layer = 1; layer <= 3; layer++) {
            CHECKS.same("WHITEOUT at from", WHITEOUT, x.heldAt(layer, from[layer - 1]));
            CHECKS.same("two paths", 2, x.sizeOf(layer));
        }
        CHECKS.same("the one content is left", 1, x.shownAt(3, 0));
        CHECKS.same("alone", 31 + 1, x.digest(3));
    }

    private static void moveAndRemoveFailWhereNoneIsShown() {
        for (int path = 0; path < 12; path++) {
            LayeredImages x = new LayeredImages();
            x.addMove(0, path, (path + 1) % 12);
            CHECKS.same("MOVE where the root layer shows none", NONE, x.build(0));
            x.addRemove(1, path);
            CHECKS.same("REMOVE where the root layer shows none", NONE, x.build(1));
            CHECKS.same("no layer is made", 1, x.layers());
            x.setBase(0, path, 0);
            CHECKS.same("MOVE where it shows one", 2, x.build(0));
            CHECKS.same("REMOVE where it shows one", 3, x.build(1));
            x.addMove(0, path, (path + 2) % 12);
            CHECKS.same("MOVE where a MOVE hid it", NONE, x.build(0));
            x.addRemove(1, path);
            CHECKS.same("REMOVE where a REMOVE hid it", NONE, x.build(1));
        }
    }

    private static void moveAndRemoveOfTheContent0() {
        LayeredImages x = new LayeredImages();
        x.setBase(0, 0, 0);
        x.addMove(0, 0, 11);
        x.addRemove(0, 11);
        CHECKS.same("both can be carried out", 2, x.build(0));
        CHECKS.same("0 is moved", 0, x.heldAt(1, 11));
        CHECKS.same("0 is removed", WHITEOUT, x.heldAt(2, 11));
    }

    private static void setMakesALayerWithAnEmptyDifference() {
        LayeredImages x = new LayeredImages();
        x.setBase(0, 0, 3);
        x.addSet(0, 1, 0);
        int top = x.build(0);
        CHECKS.same("a layer, though the value is the same", 1, top);
        CHECKS.same("a miss", 1, x.misses());
        for (int path = 0; path < 12; path++) {
            CHECKS.same("nothing is held", NONE, x.heldAt(top, path));
        }
        CHECKS.same("what is shown is the same", x.digest(0), x.digest(top));
    }

    private static void instructionsAtTheHighestNumbers() {
        LayeredImages x = new LayeredImages();
        x.setFile(7, 9999);
        x.addCopy(3, 7, 11);
        x.addMove(3, 11, 0);
        x.addMove(3, 0, 11);
        x.addSet(3, 3, 999);
        x.addRun(3, 11, 3);
        x.addRemove(3, 11);
        CHECKS.same("all are carried out", 6, x.build(3));
        CHECKS.same("COPY", 9999, x.heldAt(1, 11));
        CHECKS.same("MOVE to the lowest path", 9999, x.heldAt(2, 0));
        CHECKS.same("MOVE to the highest path", 9999, x.heldAt(3, 11));
        CHECKS.same("SET", 999, x.variable(4, 3));
        CHECKS.same("RUN", 752, x.heldAt(5, 11));
        CHECKS.same("REMOVE", WHITEOUT, x.heldAt(6, 11));
    }

    private static void theLast512thCallIsAnswered() {
        LayeredImages x = new LayeredImages();
        for (int call = 1; call <= 510; call += 2) {
            x.setBase(0, 0, call);
            x.start(0);
        }
        CHECKS.same("the 511th call", 255, x.layers());
        CHECKS.same("the 512th call", 509, x.shownAt(254, 0));
    }
}
