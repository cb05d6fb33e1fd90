/** Promises 20 to 25: tag, untag, tagged, squash, rebase, prune. */
final class TagsTest {
    private static final Checks CHECKS = new Checks("TagsTest");
    private static final int NONE = LayeredImages.NONE;
    private static final int WHITEOUT = LayeredImages.WHITEOUT;

    public static void main(String[] args) {
        promise20Tag();
        promise20WrongInputsAndStates();
        promise21Untag();
        promise22Tagged();
        promise23SquashHoldsJustTheDifference();
        promise23SquashFromThePlaceOn();
        promises23And24KeepAllVariables();
        promise23SquashIsNotFoundByTheCache();
        promise23WrongInputsAndStates();
        promise24RebaseOnAnotherBase();
        promise24WhiteoutOnlyWhereTheNewParentShows();
        promise24RootLayers();
        promise24LayersAreNotFoundByTheCache();
        promise24WhileABuildGoesOn();
        promise24WrongInputsAndStates();
        promise25Prune();
        promise25KeepsWholeImages();
        promise25WhileABuildGoesOn();
        CHECKS.end();
    }

    private static void promise20Tag() {
        LayeredImages x = new LayeredImages();
        x.addRun(0, 0, 0);
        x.build(0);
        CHECKS.same("tag", NONE, x.tag(0));
        CHECKS.same("tag of another number", NONE, x.tag(4));
        x.addRun(0, 0, 0);
        x.build(0);
        CHECKS.same("tag again", 1, x.tag(0));
        CHECKS.same("stands for the latest", 2, x.tagged(0));
        CHECKS.same("the other stays", 1, x.tagged(4));
        CHECKS.same("tag once more", 2, x.tag(0));
    }

    private static void promise20WrongInputsAndStates() {
        LayeredImages x = new LayeredImages();
        CHECKS.badState("tag before a build", () -> x.tag(0));
        CHECKS.outOfBounds("tag(-1) before a build", () -> x.tag(-1));
        CHECKS.outOfBounds("tag(5) before a build", () -> x.tag(5));
        x.addRun(0, 0, 0);
        x.build(0);
        x.tag(0);
        CHECKS.outOfBounds("tag(5)", () -> x.tag(5));
        x.start(0);
        CHECKS.badState("tag while a build goes on", () -> x.tag(0));
        x.step();
        x.addRemove(1, 0);
        x.build(1);
        CHECKS.badState("tag of a failed build", () -> x.tag(0));
        CHECKS.same("the tag stays", 1, x.tagged(0));
    }

    private static void promise21Untag() {
        LayeredImages x = new LayeredImages();
        x.build(0);
        x.tag(0);
        x.tag(1);
        CHECKS.same("untag", 0, x.untag(0));
        CHECKS.same("it stands for none", NONE, x.tagged(0));
        CHECKS.same("the other stays", 0, x.tagged(1));
        CHECKS.same("untag again", NONE, x.untag(0));
        CHECKS.same("the layer stays", 1, x.depth(0));
        CHECKS.outOfBounds("untag(-1)", () -> x.untag(-1));
        CHECKS.outOfBounds("untag(5)", () -> x.untag(5));
        CHECKS.same("untag of the highest", NONE, x.untag(4));
    }

    private static void promise22Tagged() {
        LayeredImages x = new LayeredImages();
        CHECKS.same("none at first", NONE, x.tagged(4));
        x.build(0);
        x.tag(4);
        CHECKS.same("tagged", 0, x.tagged(4));
        CHECKS.same("others are none", NONE, x.tagged(3));
        CHECKS.outOfBounds("tagged(-1)", () -> x.tagged(-1));
        CHECKS.outOfBounds("tagged(5)", () -> x.tagged(5));
    }

    /** Base 0 shows 10 to 13 at 0 to 3; the image of layer 6 is tagged 0. */
    private static LayeredImages withImage() {
        LayeredImages x = new LayeredImages();
        for (int path = 0; path < 4; path++) {
            x.setBase(0, path, 10 + path);
        }
        x.setFile(0, 10);
        x.setFile(1, 99);
        x.addMove(0, 0, 5);
        x.addCopy(0, 1, 6);
        x.addRemove(0, 1);
        x.addSet(0, 2, 77);
        x.addRemove(0, 6);
        x.addCopy(0, 0, 0);
        CHECKS.same("the image", 6, x.build(0));
        x.tag(0);
        return x;
    }

    private static void promise23SquashHoldsJustTheDifference() {
        LayeredImages x = withImage();
        CHECKS.same("squash", 7, x.squash(0, 1));
        CHECKS.same("on the root layer", 0, x.parentOf(7));
        CHECKS.same("the tag stands for it", 7, x.tagged(0));
        CHECKS.same("path 0 is as in the parent", NONE, x.heldAt(7, 0));
        CHECKS.same("path 1 is hidden", WHITEOUT, x.heldAt(7, 1));
        CHECKS.same("path 2 never changed", NONE, x.heldAt(7, 2));
        CHECKS.same("path 5 is new", 10, x.heldAt(7, 5));
        CHECKS.same("path 6 came and went", NONE, x.heldAt(7, 6));
        CHECKS.same("two paths", 2, x.sizeOf(7));
        CHECKS.same("it shows the same", x.digest(6), x.digest(7));
        CHECKS.same("it has the same values", 77, x.variable(7, 2));
        CHECKS.same("its depth", 2, x.depth(7));
        CHECKS.same("the old layer stays", 5, x.parentOf(6));
        CHECKS.same("no miss", 6, x.misses());
        CHECKS.same("built stays", 6, x.built());
    }

    private static void promise23SquashFromThePlaceOn() {
        LayeredImages x = withImage();
        x.tag(1);
        x.tag(2);
        CHECKS.same("squash of the last layer alone", 7, x.squash(0, 6));
        CHECKS.same("its parent", 5, x.parentOf(7));
        CHECKS.same("it holds what the last one holds", 10, x.heldAt(7, 0));
        CHECKS.same("and nothing else", 1, x.sizeOf(7));
        CHECKS.same("squash from the middle", 8, x.squash(1, 3));
        CHECKS.same("its parent", 2, x.parentOf(8));
        CHECKS.same("WHITEOUT over what that parent shows", WHITEOUT, x.heldAt(8, 6));
        CHECKS.same("three paths", 3, x.sizeOf(8));
        CHECKS.same("its value", 77, x.variable(8, 2));
        CHECKS.same("another tag stays", 6, x.tagged(2));
        CHECKS.same("squash of a squashed one", 9, x.squash(1, 3));
        CHECKS.same("its parent", 2, x.parentOf(9));
        CHECKS.same("it holds the same", 3, x.sizeOf(9));
    }

    private static void promises23And24KeepAllVariables() {
        LayeredImages x = new LayeredImages();
        for (int variable = 0; variable < 4; variable++) {
            x.addSet(0, variable, 5 + variable);
        }
        x.build(0);
        x.tag(0);
        int squashed = x.squash(0, 2);
        int moved = x.rebase(0, 0);
        for (int variable = 0; variable < 4; variable++) {
            CHECKS.same("in the squashed layer", 5 + variable, x.variable(squashed, variable));
            CHECKS.same("in the moved layer", 5 + variable, x.variable(moved, variable));
        }
        CHECKS.same("the parent keeps its own", 0, x.variable(x.parentOf(moved), 1));
    }

    private static void promise23SquashIsNotFoundByTheCache() {
        LayeredImages x = new LayeredImages();
        x.addRun(0, 0, 0);
        x.build(0);
        x.tag(0);
        CHECKS.same("squash", 2, x.squash(0, 1));
        x.untag(1);
        x.prune();
        CHECKS.same("the layer of the step is gone", NONE, x.built());
        CHECKS.same("the squashed one is not found", 3, x.build(0));
    }

    private static void promise23WrongInputsAndStates() {
        LayeredImages x = withImage();
        CHECKS.outOfBounds("squash(-1, 1)", () -> x.squash(-1, 1));
        CHECKS.outOfBounds("squash(5, 1)", () -> x.squash(5, 1));
        CHECKS.outOfBounds("squash(0, 0)", () -> x.squash(0, 0));
        CHECKS.outOfBounds("squash(0, -1)", () -> x.squash(0, -1));
        CHECKS.outOfBounds("squash(0, MIN)", () -> x.squash(0, Integer.MIN_VALUE));
        CHECKS.outOfBounds("squash(0, 7)", () -> x.squash(0, 7));
        CHECKS.outOfBounds("squash(0, MAX)", () -> x.squash(0, Integer.MAX_VALUE));
        CHECKS.outOfBounds("place 0 of no image", () -> x.squash(1, 0));
        CHECKS.badState("squash of no image", () -> x.squash(1, 1));
        CHECKS.badState("any place of no image", () -> x.squash(1, Integer.MAX_VALUE));
        CHECKS.same("nothing was made", 7, x.layers());
        CHECKS.same("the tag stays", 6, x.tagged(0));
        x.start(3);
        x.tag(3);
        CHECKS.outOfBounds("squash of a root layer", () -> x.squash(3, 1));
    }

    private static void promise24RebaseOnAnotherBase() {
        LayeredImages x = withImage();
        x.setBase(1, 1, 21);
        x.setBase(1, 8, 28);
        CHECKS.same("rebase", 13, x.rebase(0, 1));
        CHECKS.same("the tag stands for it", 13, x.tagged(0));
        CHECKS.same("a new root layer and six more", 14, x.layers());
        CHECKS.same("the root layer", NONE, x.parentOf(7));
        CHECKS.same("it holds base 1", 28, x.heldAt(7, 8));
        CHECKS.same("and just that", 2, x.sizeOf(7));
        for (int layer = 8; layer <= 13; layer++) {
            CHECKS.same("each on the one before", layer - 1, x.parentOf(layer));
        }
        CHECKS.same("MOVE: the content of the old image", 10, x.heldAt(8, 5));
        CHECKS.same("MOVE: nothing to hide", NONE, x.heldAt(8, 0));
        CHECKS.same("COPY", 99, x.heldAt(9, 6));
        CHECKS.same("REMOVE: hides what base 1 shows", WHITEOUT, x.heldAt(10, 1));
        CHECKS.same("SET", 77, x.variable(11, 2));
        CHECKS.same("SET holds nothing", 0, x.sizeOf(11));
        CHECKS.same("REMOVE: hides what the new image shows", WHITEOUT, x.heldAt(12, 6));
        CHECKS.same("COPY of the last step", 10, x.heldAt(13, 0));
        CHECKS.same("the values go on", 77, x.variable(13, 2));
        CHECKS.same("the values before SET", 0, x.variable(10, 2));
        CHECKS.same("the size of the image", 2 + 1 + 1 + 1 + 0 + 1 + 1, x.imageSize(13));
        CHECKS.same("the old image stays", 0, x.parentOf(1));
        CHECKS.same("no hits", 0, x.hits());
        CHECKS.same("no more misses", 6, x.misses());
        CHECKS.same("built stays", 6, x.built());
    }

    private static void promise24WhiteoutOnlyWhereTheNewParentShows() {
        LayeredImages x = new LayeredImages();
        x.setBase(0, 0, 1);
        x.addRemove(0, 0);
        x.addRun(0, 0, 0);
        x.addRemove(0, 0);
        x.build(0);
        x.tag(0);
        CHECKS.same("rebase on a base without path 0", 7, x.rebase(0, 1));
        CHECKS.same("nothing to hide", NONE, x.heldAt(5, 0));
        CHECKS.same("what was run is held as it was", 1, x.heldAt(6, 0));
        CHECKS.same("that is hidden", WHITEOUT, x.heldAt(7, 0));
        CHECKS.same("back on base 0", 10, x.rebase(0, 0));
        CHECKS.same("a WHITEOUT that was dropped stays away", NONE, x.heldAt(8, 0));
        CHECKS.same("so that it shows the base", 1, x.shownAt(8, 0));
        CHECKS.same("the last one hides", WHITEOUT, x.heldAt(10, 0));
        CHECKS.same("none is shown", NONE, x.shownAt(10, 0));
    }

    private static void promise24RootLayers() {
        LayeredImages x = new LayeredImages();
        x.setBase(1, 0, 1);
        x.build(0);
        x.tag(0);
        CHECKS.same("an image of a root layer", 1, x.rebase(0, 1));
        CHECKS.same("stands on the new root layer", 1, x.tagged(0));
        CHECKS.same("it is made", 2, x.layers());
        CHECKS.same("back on the lowest that fits", 0, x.rebase(0, 0));
        CHECKS.same("nothing is made", 2, x.layers());
        x.setBase(2, 0, 1);
        CHECKS.same("the lowest that shows the same", 1, x.rebase(0, 2));
        x.reset(3, 2);
        x.setBase(2, 0, 2);
        CHECKS.same("what the base shows now", 2, x.rebase(0, 2));
        CHECKS.same("a root layer is found by a build", 2, x.start(3));
        x.prune();
        CHECKS.same("a gone one is not found", 3, x.rebase(0, 0));
    }

    private static void promise24LayersAreNotFoundByTheCache() {
        LayeredImages x = new LayeredImages();
        x.addRun(0, 0, 0);
        x.build(0);
        x.tag(0);
        CHECKS.same("rebase on the same base", 2, x.rebase(0, 0));
        CHECKS.same("on the same root layer", 0, x.parentOf(2));
        x.prune();
        CHECKS.same("the layer of rebase is not found", 3, x.build(0));
        CHECKS.same("but the root layer", 0, x.parentOf(3));
    }

    private static void promise24WhileABuildGoesOn() {
        LayeredImages x = withImage();
        x.addRun(1, 0, 0);
        x.addRun(1, 1, 0);
        x.start(1);
        CHECKS.same("step", 7, x.step());
        CHECKS.same("rebase while a build goes on", 14, x.rebase(0, 2));
        CHECKS.same("squash while a build goes on", 15, x.squash(0, 1));
        CHECKS.same("the build goes on", 16, x.step());
        CHECKS.same("on its own layer", 7, x.parentOf(16));
    }

    private static void promise24WrongInputsAndStates() {
        LayeredImages x = withImage();
        x.setBase(1, 0, 1);
        CHECKS.outOfBounds("rebase(-1, 0)", () -> x.rebase(-1, 0));
        CHECKS.outOfBounds("rebase(5, 0)", () -> x.rebase(5, 0));
        CHECKS.outOfBounds("rebase(0, -1)", () -> x.rebase(0, -1));
        CHECKS.outOfBounds("rebase(0, 3)", () -> x.rebase(0, 3));
        CHECKS.outOfBounds("rebase(1, 3) of no image", () -> x.rebase(1, 3));
        CHECKS.badState("rebase of no image", () -> x.rebase(1, 1));
        CHECKS.same("nothing was made", 7, x.layers());
        CHECKS.same("the tag stays", 6, x.tagged(0));
        CHECKS.same("the other stays none", NONE, x.tagged(1));
    }

    private static void promise25Prune() {
        LayeredImages x = withImage();
        CHECKS.same("all are in the image", 0, x.prune());
        x.squash(0, 3);
        CHECKS.same("those above the parent of the squashed one", 4, x.prune());
        CHECKS.same("the squashed one stays", 2, x.parentOf(7));
        CHECKS.same("the root layer stays", NONE, x.parentOf(0));
        for (int layer = 3; layer <= 6; layer++) {
            int gone = layer;
            CHECKS.outOfBounds("parentOf a gone layer", () -> x.parentOf(gone));
            CHECKS.outOfBounds("sizeOf a gone layer", () -> x.sizeOf(gone));
            CHECKS.outOfBounds("heldAt a gone layer", () -> x.heldAt(gone, 0));
            CHECKS.outOfBounds("shownAt a gone layer", () -> x.shownAt(gone, 0));
            CHECKS.outOfBounds("variable of a gone layer", () -> x.variable(gone, 0));
            CHECKS.outOfBounds("depth of a gone layer", () -> x.depth(gone));
            CHECKS.outOfBounds("imageSize of a gone layer", () -> x.imageSize(gone));
            CHECKS.outOfBounds("digest of a gone layer", () -> x.digest(gone));
        }
        CHECKS.same("gone ones are not pruned again", 0, x.prune());
        CHECKS.same("they are counted", 8, x.layers());
        x.untag(0);
        CHECKS.same("the rest", 4, x.prune());
        CHECKS.same("numbers are not given again", 8, x.start(3));
    }

    private static void promise25KeepsWholeImages() {
        LayeredImages x = new LayeredImages();
        x.addRun(0, 0, 0);
        x.addRun(0, 1, 0);
        x.addRun(1, 0, 0);
        x.addRun(1, 2, 0);
        x.setBase(2, 0, 1);
        x.reset(2, 2);
        x.build(0);
        x.tag(0);
        x.build(1);
        x.tag(4);
        x.build(2);
        CHECKS.same("the layer without a tag", 1, x.prune());
        CHECKS.same("two images that share layers", 3, x.depth(3));
        CHECKS.same("prune after untag", NONE, x.untag(1));
        x.untag(0);
        CHECKS.same("what only the first had", 1, x.prune());
        CHECKS.same("what the other has stays", 3, x.depth(3));
        CHECKS.same("its layers stay", 1, x.parentOf(3));
    }

    private static void promise25WhileABuildGoesOn() {
        LayeredImages x = new LayeredImages();
        x.build(0);
        x.addRun(0, 0, 0);
        x.start(0);
        CHECKS.badState("prune while a build goes on", x::prune);
        CHECKS.same("nothing is gone", 1, x.depth(0));
        CHECKS.same("the build goes on", 1, x.step());
        CHECKS.same("prune behind it", 2, x.prune());
    }
}
