/** The limit of 400 layers, for start, build, squash and rebase (promises 12, 14, 23, 24). */
final class LimitsTest {
    private static final Checks CHECKS = new Checks("LimitsTest");
    private static final int NONE = LayeredImages.NONE;

    public static void main(String[] args) {
        nothingBeginsAtTheLimit();
        goneLayersAreCounted();
        aBuildThatGoesOnCanGoOn();
        theMostLayersThatCanBeMade();
        promise12StartBelowAtAndAboveTheLimit();
        promise14BuildBelowAtAndAboveTheLimit();
        promise23SquashBelowAtAndAboveTheLimit();
        promise24RebaseBelowAtAndAboveTheLimit();
        foundRootLayersDoNotBringTheLimit();
        layersOfWhichSomeAreGoneBringTheLimit();
        theLimitIsReachedByASquashWhileABuildGoesOn();
        aBuildThatGoesOnHitsAndFailsAtTheLimit();
        promises26To34LayersAround400();
        promise25PruneAround400();
        allElseIsAllowedAtTheLimit();
        CHECKS.end();
    }

    /** Ten steps a build in recipe 0, whose base is changed so that each makes 11 layers. */
    private static void makeLayers(LayeredImages x, int due) {
        int content = 0;
        while (x.layers() + 11 <= due) {
            x.setBase(0, 0, content);
            content++;
            x.build(0);
        }
        while (x.layers() < due) {
            x.setBase(0, 0, content);
            content++;
            x.start(3);
        }
        CHECKS.same("layers", due, x.layers());
    }

    private static LayeredImages withFullRecipe() {
        LayeredImages x = new LayeredImages();
        for (int i = 0; i < 10; i++) {
            x.addRun(0, 1 + i, 0);
        }
        return x;
    }

    private static void nothingBeginsAtTheLimit() {
        LayeredImages x = withFullRecipe();
        makeLayers(x, 388);
        x.setBase(0, 11, 1);
        x.build(0);
        x.tag(0);
        CHECKS.same("one below the limit", 399, x.layers());
        CHECKS.same("a squash is made yet", 399, x.squash(0, 10));
        CHECKS.same("at the limit", 400, x.layers());
        CHECKS.badState("start", () -> x.start(3));
        CHECKS.badState("build", () -> x.build(0));
        CHECKS.badState("build of a layer that would be found", () -> x.build(3));
        CHECKS.badState("squash", () -> x.squash(0, 1));
        CHECKS.badState("rebase", () -> x.rebase(0, 0));
        CHECKS.outOfBounds("start(4)", () -> x.start(4));
        CHECKS.outOfBounds("build(-1)", () -> x.build(-1));
        CHECKS.outOfBounds("squash, no such place", () -> x.squash(0, 11));
        CHECKS.outOfBounds("rebase, no such base", () -> x.rebase(0, 3));
        CHECKS.badState("squash of no image", () -> x.squash(1, 1));
        CHECKS.same("built stays", 398, x.built());
        CHECKS.same("the tag stays", 399, x.tagged(0));
        CHECKS.same("tags can be set", NONE, x.tag(1));
        CHECKS.same("a clean digest can be asked", x.digest(398), x.cleanDigest(0));
    }

    private static void goneLayersAreCounted() {
        LayeredImages x = withFullRecipe();
        makeLayers(x, 400);
        CHECKS.same("all are gone", 400, x.prune());
        CHECKS.badState("start", () -> x.start(3));
        CHECKS.badState("build", () -> x.build(3));
        CHECKS.same("none is made", 400, x.layers());
        CHECKS.outOfBounds("the last one is gone", () -> x.depth(399));
    }

    private static void aBuildThatGoesOnCanGoOn() {
        LayeredImages x = withFullRecipe();
        makeLayers(x, 399);
        x.setBase(0, 11, 1);
        CHECKS.same("a build starts one below the limit", 399, x.start(0));
        for (int step = 0; step < 10; step++) {
            CHECKS.same("its step", 400 + step, x.step());
        }
        CHECKS.same("it is complete", 409, x.built());
        CHECKS.badState("the next one is not started", () -> x.start(0));
        CHECKS.same("its image", 11, x.depth(409));
        CHECKS.same("it can be tagged", NONE, x.tag(0));
        CHECKS.badState("but not squashed", () -> x.squash(0, 1));
        CHECKS.same("the others can be pruned", 399, x.prune());
        CHECKS.same("its image stays", 12, x.imageSize(409));
    }

    private static void theMostLayersThatCanBeMade() {
        LayeredImages x = withFullRecipe();
        x.setBase(0, 0, 77);
        x.build(0);
        x.tag(0);
        makeLayers(x, 398);
        x.setBase(0, 11, 1);
        CHECKS.same("start", 398, x.start(0));
        x.setBase(2, 5, 5);
        CHECKS.same("rebase at 399 layers", 409, x.rebase(0, 2));
        CHECKS.same("with a root layer and ten more", 410, x.layers());
        CHECKS.badState("a second rebase", () -> x.rebase(0, 2));
        CHECKS.badState("a squash", () -> x.squash(0, 1));
        for (int step = 0; step < 10; step++) {
            CHECKS.same("the build goes on", 410 + step, x.step());
        }
        CHECKS.same("420 layers", 420, x.layers());
        CHECKS.same("the last one", 11, x.depth(419));
        CHECKS.same("the tagged one", 11, x.depth(409));
        CHECKS.same("its size", 11, x.imageSize(409));
        CHECKS.same("prune", 420 - 11, x.prune());
    }

    /**
     * An object on which so many layers were made, 22 or more; tag 0 stands for layer 2, on the
     * layers 0 and 1. Recipe 1 is full, recipe 3 has no instructions.
     */
    private static LayeredImages withLayers(int due) {
        LayeredImages x = new LayeredImages();
        x.addRun(0, 0, 0);
        x.addRun(0, 1, 0);
        x.build(0);
        x.tag(0);
        x.reset(1, 1);
        for (int i = 0; i < 10; i++) {
            x.addRun(1, i, 0);
        }
        x.reset(3, 2);
        Examples.makeLayers(x, Math.min(due, 400));
        CHECKS.same("layers", Math.min(due, 400), x.layers());
        return x;
    }

    /** The same with more than 400, by a build that was started at 399. */
    private static LayeredImages withLayersAbove400(int due) {
        LayeredImages x = withLayers(399);
        while (x.instructions(1) > due - 400) {
            x.drop(1, 0);
        }
        x.setBase(1, 11, 1);
        CHECKS.same("a build that is started at 399", due - 1, x.build(1));
        CHECKS.same("layers", due, x.layers());
        return x;
    }

    private static void promise12StartBelowAtAndAboveTheLimit() {
        for (int made = 398; made <= 399; made++) {
            LayeredImages x = withLayers(made);
            x.setBase(2, 11, 1);
            CHECKS.same("start at " + made, made, x.start(3));
        }
        for (int made = 400; made <= 402; made++) {
            LayeredImages x = made == 400 ? withLayers(400) : withLayersAbove400(made);
            x.setBase(2, 11, 1);
            for (int recipe = 0; recipe < 4; recipe++) {
                int asked = recipe;
                CHECKS.badState("start at " + made, () -> x.start(asked));
            }
            CHECKS.same("none is made", made, x.layers());
            CHECKS.same("the latest build stays", made - 1, x.built());
        }
    }

    private static void promise14BuildBelowAtAndAboveTheLimit() {
        for (int made = 398; made <= 399; made++) {
            LayeredImages x = withLayers(made);
            x.setBase(1, 11, 1);
            CHECKS.same("build at " + made, made + 10, x.build(1));
            CHECKS.same("all eleven layers are made", made + 11, x.layers());
            CHECKS.same("it is complete", made + 10, x.built());
        }
        for (int made = 400; made <= 402; made++) {
            LayeredImages x = made == 400 ? withLayers(400) : withLayersAbove400(made);
            for (int recipe = 0; recipe < 4; recipe++) {
                int asked = recipe;
                CHECKS.badState("build at " + made, () -> x.build(asked));
            }
            CHECKS.same("none is made", made, x.layers());
            CHECKS.same("the latest build stays", made - 1, x.built());
        }
    }

    private static void promise23SquashBelowAtAndAboveTheLimit() {
        for (int made = 398; made <= 399; made++) {
            LayeredImages x = withLayers(made);
            CHECKS.same("squash at " + made, made, x.squash(0, 1));
            CHECKS.same("the tag stands for it", made, x.tagged(0));
        }
        for (int made = 400; made <= 402; made++) {
            LayeredImages x = made == 400 ? withLayers(400) : withLayersAbove400(made);
            CHECKS.badState("squash at " + made, () -> x.squash(0, 1));
            CHECKS.badState("squash at " + made, () -> x.squash(0, 2));
            CHECKS.outOfBounds("no such place at " + made, () -> x.squash(0, 3));
            CHECKS.outOfBounds("place 0 at " + made, () -> x.squash(0, 0));
            CHECKS.same("none is made", made, x.layers());
            CHECKS.same("the tag stays", 2, x.tagged(0));
        }
    }

    private static void promise24RebaseBelowAtAndAboveTheLimit() {
        for (int made = 398; made <= 399; made++) {
            LayeredImages x = withLayers(made);
            x.setBase(1, 11, 1);
            CHECKS.same("a new root layer and two more at " + made, made + 2, x.rebase(0, 1));
            CHECKS.same("the root layer", NONE, x.parentOf(made));
            LayeredImages y = withLayers(made);
            CHECKS.same("two more at " + made, made + 1, y.rebase(0, 0));
            CHECKS.same("on the root layer that is there", 0, y.parentOf(made));
        }
        for (int made = 400; made <= 402; made++) {
            LayeredImages x = made == 400 ? withLayers(400) : withLayersAbove400(made);
            for (int base = 0; base < 3; base++) {
                int asked = base;
                CHECKS.badState("rebase at " + made, () -> x.rebase(0, asked));
            }
            CHECKS.outOfBounds("no such base at " + made, () -> x.rebase(0, 3));
            CHECKS.same("none is made", made, x.layers());
            CHECKS.same("the tag stays", 2, x.tagged(0));
        }
    }

    private static void foundRootLayersDoNotBringTheLimit() {
        LayeredImages x = withLayers(399);
        CHECKS.same("layers that are found", 2, x.build(0));
        CHECKS.same("found again", 2, x.build(0));
        x.start(2);
        x.tag(1);
        CHECKS.same("a root layer that is found", 0, x.rebase(1, 0));
        CHECKS.same("none was made", 399, x.layers());
        x.setBase(2, 11, 1);
        CHECKS.same("the layer that brings the limit", 399, x.start(3));
        CHECKS.badState("a build of layers that are there", () -> x.build(0));
        CHECKS.badState("a root layer that is there", () -> x.start(2));
        CHECKS.badState("a rebase on a root layer that is there", () -> x.rebase(1, 0));
    }

    private static void layersOfWhichSomeAreGoneBringTheLimit() {
        LayeredImages x = withLayers(399);
        CHECKS.same("all but the image are gone", 396, x.prune());
        CHECKS.same("they are counted", 399, x.layers());
        CHECKS.same("a squash is made yet", 399, x.squash(0, 2));
        CHECKS.same("one more is gone", 1, x.prune());
        CHECKS.badState("start", () -> x.start(0));
        CHECKS.badState("build", () -> x.build(0));
        CHECKS.badState("squash", () -> x.squash(0, 2));
        CHECKS.badState("rebase", () -> x.rebase(0, 1));
        x.untag(0);
        CHECKS.same("all are gone", 3, x.prune());
        CHECKS.badState("start with all of them gone", () -> x.start(0));
        CHECKS.same("they are counted", 400, x.layers());
    }

    private static void theLimitIsReachedByASquashWhileABuildGoesOn() {
        LayeredImages x = withLayers(397);
        x.setBase(1, 11, 1);
        CHECKS.same("start", 397, x.start(1));
        CHECKS.same("step", 398, x.step());
        CHECKS.same("a squash at 399", 399, x.squash(0, 2));
        CHECKS.badState("a squash at 400", () -> x.squash(0, 2));
        CHECKS.badState("a rebase at 400", () -> x.rebase(0, 0));
        CHECKS.same("nine steps are left", 9, x.stepsLeft());
        for (int layer = 400; layer <= 408; layer++) {
            CHECKS.same("the build goes on", layer, x.step());
        }
        CHECKS.same("until it is complete", 408, x.built());
        CHECKS.same("step 2 stands on step 1", 398, x.parentOf(400));
    }

    private static void aBuildThatGoesOnHitsAndFailsAtTheLimit() {
        LayeredImages x = withLayers(398);
        x.addRun(0, 2, 0);
        x.addRemove(0, 11);
        x.start(0);
        x.squash(0, 2);
        x.rebase(0, 0);
        CHECKS.same("the limit is passed", 401, x.layers());
        int hits = x.hits();
        int misses = x.misses();
        CHECKS.same("a hit", 1, x.step());
        CHECKS.same("a hit", 2, x.step());
        CHECKS.same("a miss", 401, x.step());
        CHECKS.same("hits", hits + 2, x.hits());
        CHECKS.same("misses", misses + 1, x.misses());
        CHECKS.same("a step that fails", NONE, x.step());
        CHECKS.same("no layer for that", 402, x.layers());
        CHECKS.same("no build goes on", 0, x.stepsLeft());
        CHECKS.same("none is built", NONE, x.built());
        CHECKS.badState("the next one is not started", () -> x.start(0));
    }

    private static void promises26To34LayersAround400() {
        LayeredImages x = withLayersAbove400(402);
        CHECKS.same("the root layer 399", NONE, x.parentOf(399));
        CHECKS.same("the parent of 400", 399, x.parentOf(400));
        CHECKS.same("the parent of 401", 400, x.parentOf(401));
        for (int layer = 399; layer <= 401; layer++) {
            CHECKS.same("depth of " + layer, layer - 398, x.depth(layer));
            CHECKS.same("path 11 is shown by " + layer, 1, x.shownAt(layer, 11));
            CHECKS.same("it is held by 399", layer == 399 ? 1 : NONE, x.heldAt(layer, 11));
            CHECKS.same("sizeOf " + layer, layer == 399 ? 2 : 1, x.sizeOf(layer));
            CHECKS.same("imageSize of " + layer, layer - 397, x.imageSize(layer));
            CHECKS.same("a variable of " + layer, 0, x.variable(layer, 3));
        }
        CHECKS.same("digest of a clean build", x.cleanDigest(1), x.digest(401));
        for (int layer = 402; layer <= 403; layer++) {
            int none = layer;
            CHECKS.outOfBounds("no layer " + layer, () -> x.depth(none));
            CHECKS.outOfBounds("no layer " + layer, () -> x.digest(none));
        }
    }

    private static void promise25PruneAround400() {
        LayeredImages x = withLayersAbove400(402);
        x.tag(0);
        CHECKS.same("all but the image of layer 401", 399, x.prune());
        for (int layer = 399; layer <= 401; layer++) {
            CHECKS.same("its layers stay", layer - 398, x.depth(layer));
        }
        CHECKS.outOfBounds("layer 398 is gone", () -> x.depth(398));
        x.untag(0);
        CHECKS.same("its image", 3, x.prune());
        for (int layer = 398; layer <= 402; layer++) {
            int gone = layer;
            CHECKS.outOfBounds("layer " + layer + " is gone", () -> x.depth(gone));
        }
        CHECKS.same("its layer is gone", NONE, x.built());
        CHECKS.badState("tag", () -> x.tag(0));
        CHECKS.same("layers", 402, x.layers());
    }

    private static void allElseIsAllowedAtTheLimit() {
        LayeredImages x = withLayers(400);
        CHECKS.same("setFile", NONE, x.setFile(0, 5));
        CHECKS.same("setBase", NONE, x.setBase(0, 3, 5));
        CHECKS.same("addCopy", 3, x.addCopy(0, 0, 4));
        CHECKS.same("addMove", 4, x.addMove(0, 4, 5));
        CHECKS.same("addRemove", 5, x.addRemove(0, 5));
        CHECKS.same("addSet", 6, x.addSet(0, 0, 5));
        CHECKS.same("addRun", 7, x.addRun(0, 0, 0));
        CHECKS.same("drop", 6, x.drop(0, 6));
        CHECKS.same("instructions", 6, x.instructions(0));
        CHECKS.same("cleanDigest", 31 * (31 * (31 + 1) + 101 + 1) + 303 + 5, x.cleanDigest(0));
        CHECKS.same("reset", 6, x.reset(0, 0));
        CHECKS.same("tag", 2, x.tag(0));
        CHECKS.same("tagged", 399, x.tagged(0));
        CHECKS.same("untag", 399, x.untag(0));
        CHECKS.same("prune", 400, x.prune());
    }
}
