/** The limit of 400 layers, for start, build, squash and rebase (promises 12, 14, 23, 24). */
final class LimitsTest {
    private static final Checks CHECKS = new Checks("LimitsTest");
    private static final int NONE = LayeredImages.NONE;

    public static void main(String[] args) {
        nothingBeginsAtTheLimit();
        goneLayersAreCounted();
        aBuildThatGoesOnCanGoOn();
        theMostLayersThatCanBeMade();
        CHECKS.end();
    }

    /** Ten steps a build in recipe 0, whose base is changed so that each makes 11 layers. */
    private static void makeLayers(LayeredImages x, int due) {
        int content = 0;
        while (x.layers() + 11 <= due) {
            x.setBase(0, 0, content);
            content++;
            x.build(0);
        }
        while (x.layers() < due) {
            x.setBase(0, 0, content);
            content++;
            x.start(3);
        }
        CHECKS.same("layers", due, x.layers());
    }

    private static LayeredImages withFullRecipe() {
        LayeredImages x = new LayeredImages();
        for (int i = 0; i < 10; i++) {
            x.addRun(0, 1 + i, 0);
        }
        return x;
    }

    private static void nothingBeginsAtTheLimit() {
        LayeredImages x = withFullRecipe();
        makeLayers(x, 388);
        x.setBase(0, 11, 1);
        x.build(0);
        x.tag(0);
        CHECKS.same("one below the limit", 399, x.layers());
        CHECKS.same("a squash is made yet", 399, x.squash(0, 10));
        CHECKS.same("at the limit", 400, x.layers());
        CHECKS.badState("start", () -> x.start(3));
        CHECKS.badState("build", () -> x.build(0));
        CHECKS.badState("build of a layer that would be found", () -> x.build(3));
        CHECKS.badState("squash", () -> x.squash(0, 1));
        CHECKS.badState("rebase", () -> x.rebase(0, 0));
        CHECKS.outOfBounds("start(4)", () -> x.start(4));
        CHECKS.outOfBounds("build(-1)", () -> x.build(-1));
        CHECKS.outOfBounds("squash, no such place", () -> x.squash(0, 11));
        CHECKS.outOfBounds("rebase, no such base", () -> x.rebase(0, 3));
        CHECKS.badState("squash of no image", () -> x.squash(1, 1));
        CHECKS.same("built stays", 398, x.built());
        CHECKS.same("the tag stays", 399, x.tagged(0));
        CHECKS.same("tags can be set", NONE, x.tag(1));
        CHECKS.same("a clean digest can be asked", x.digest(398), x.cleanDigest(0));
    }

    private static void goneLayersAreCounted() {
        LayeredImages x = withFullRecipe();
        makeLayers(x, 400);
        CHECKS.same("all are gone", 400, x.prune());
        CHECKS.badState("start", () -> x.start(3));
        CHECKS.badState("build", () -> x.build(3));
        CHECKS.same("none is made", 400, x.layers());
        CHECKS.outOfBounds("the last one is gone", () -> x.depth(399));
    }

    private static void aBuildThatGoesOnCanGoOn() {
        LayeredImages x = withFullRecipe();
        makeLayers(x, 399);
        x.setBase(0, 11, 1);
        CHECKS.same("a build starts one below the limit", 399, x.start(0));
        for (int step = 0; step < 10; step++) {
            CHECKS.same("its step", 400 + step, x.step());
        }
        CHECKS.same("it is complete", 409, x.built());
        CHECKS.badState("the next one is not started", () -> x.start(0));
        CHECKS.same("its image", 11, x.depth(409));
        CHECKS.same("it can be tagged", NONE, x.tag(0));
        CHECKS.badState("but not squashed", () -> x.squash(0, 1));
        CHECKS.same("the others can be pruned", 399, x.prune());
        CHECKS.same("its image stays", 12, x.imageSize(409));
    }

    private static void theMostLayersThatCanBeMade() {
        LayeredImages x = withFullRecipe();
        x.setBase(0, 0, 77);
        x.build(0);
        x.tag(0);
        makeLayers(x, 398);
        x.setBase(0, 11, 1);
        CHECKS.same("start", 398, x.start(0));
        x.setBase(2, 5, 5);
        CHECKS.same("rebase at 399 layers", 409, x.rebase(0, 2));
        CHECKS.same("with a root layer and ten more", 410, x.layers());
        CHECKS.badState("a second rebase", () -> x.rebase(0, 2));
        CHECKS.badState("a squash", () -> x.squash(0, 1));
        for (int step = 0; step < 10; step++) {
            CHECKS.same("the build goes on", 410 + step, x.step());
        }
        CHECKS.same("420 layers", 420, x.layers());
        CHECKS.same("the last one", 11, x.depth(419));
        CHECKS.same("the tagged one", 11, x.depth(409));
        CHECKS.same("its size", 11, x.imageSize(409));
        CHECKS.same("prune", 420 - 11, x.prune());
    }
}
