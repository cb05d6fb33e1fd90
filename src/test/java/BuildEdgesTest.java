/** Promises 12 to 19 at their edges: empty and full recipes, first and last steps, the cache. */
final class BuildEdgesTest {
    private static final Checks CHECKS = new Checks("BuildEdgesTest");
    private static final int NONE = LayeredImages.NONE;

    public static void main(String[] args) {
        promise12AnEmptyRecipeIsCompleteAtOnce();
        promise12OneInstruction();
        promise12TenInstructions();
        promise12TheRootLayerHoldsJustWhatTheBaseShows();
        promise12ARootLayerOfRebaseIsFound();
        promise12TheInstructionsAreTakenAtTheStart();
        promise13TheFirstStepFails();
        promise13TheLastStepOfTenFails();
        promise13AMissStandsOnTheLayerThatWasHit();
        promise13CopyIsAskedForInTheCacheWithTheContentOfTheStep();
        promise14NoneOneAndTenSteps();
        promise14FailsAtTheFirstAndAtTheLastStep();
        promise16StaysUntilTheNextStart();
        promise16AStartThatIsRefusedIsNoStart();
        promise16ALayerInATaggedImageIsNotGone();
        promise16TheRootLayerIsGone();
        promises17And18CountStepsAlone();
        promises17And18EachContentIsAnInputOfItsOwn();
        promises17And18TheRecipeDoesNotMatter();
        promises17And18LayersOfAFailedBuildAreFound();
        promises17And18AGoneChildOfALayerThatStays();
        promise19NoneAndTenInstructions();
        promise19FailsAtTheFirstAndAtTheLastInstruction();
        promise19DoesNotDependOnLayersOrTheBuildThatGoesOn();
        CHECKS.end();
    }

    private static LayeredImages withRuns(int count) {
        LayeredImages x = new LayeredImages();
        for (int i = 0; i < count; i++) {
            x.addRun(0, i, 0);
        }
        return x;
    }

    private static void promise12AnEmptyRecipeIsCompleteAtOnce() {
        LayeredImages x = withRuns(0);
        CHECKS.same("start", 0, x.start(0));
        CHECKS.same("complete with the root layer", 0, x.built());
        CHECKS.same("no steps", 0, x.stepsLeft());
        CHECKS.badState("step", x::step);
        CHECKS.same("it can be tagged", NONE, x.tag(0));
        CHECKS.same("prune", 0, x.prune());
        CHECKS.same("no hit", 0, x.hits());
        CHECKS.same("no miss", 0, x.misses());
        CHECKS.same("the next start", 0, x.start(1));
        x.addRun(0, 0, 0);
        x.drop(0, 0);
        CHECKS.same("empty by drop", 0, x.start(0));
        CHECKS.same("complete at once", 0, x.built());
    }

    private static void goesOn(LayeredImages x, int left) {
        CHECKS.same("steps left", left, x.stepsLeft());
        CHECKS.same("it is not complete", NONE, x.built());
        CHECKS.badState("start while it goes on", () -> x.start(1));
        CHECKS.badState("build while it goes on", () -> x.build(1));
        CHECKS.badState("prune while it goes on", x::prune);
        CHECKS.badState("tag while it goes on", () -> x.tag(0));
    }

    private static void ended(LayeredImages x, int built) {
        CHECKS.same("no step is left", 0, x.stepsLeft());
        CHECKS.same("built", built, x.built());
        CHECKS.badState("step behind its end", x::step);
        CHECKS.same("the next start", 0, x.start(1));
    }

    private static void promise12OneInstruction() {
        LayeredImages x = withRuns(1);
        CHECKS.same("start", 0, x.start(0));
        goesOn(x, 1);
        CHECKS.same("step", 1, x.step());
        ended(x, 1);
        CHECKS.same("prune", 2, x.prune());
    }

    private static void promise12TenInstructions() {
        LayeredImages x = withRuns(10);
        CHECKS.same("start", 0, x.start(0));
        for (int taken = 0; taken < 10; taken++) {
            goesOn(x, 10 - taken);
            CHECKS.same("step", taken + 1, x.step());
        }
        ended(x, 10);
        CHECKS.same("prune", 11, x.prune());
    }

    /** A root layer with less, with more, or with another content is another one. */
    private static void promise12TheRootLayerHoldsJustWhatTheBaseShows() {
        for (int path = 0; path < 12; path++) {
            LayeredImages x = new LayeredImages();
            x.setBase(1, path, 0);
            x.reset(1, 1);
            CHECKS.same("a root layer with nothing", 0, x.start(0));
            CHECKS.same("content 0 is more", 1, x.start(1));
            x.setBase(1, path, 1);
            CHECKS.same("another content", 2, x.start(1));
            x.setBase(1, (path + 1) % 12, 1);
            CHECKS.same("one path more", 3, x.start(1));
            x.setBase(1, path, NONE);
            CHECKS.same("the same content at another path", 4, x.start(1));
            CHECKS.same("nothing again", 0, x.start(0));
            x.setBase(1, path, 1);
            CHECKS.same("as the fourth", 3, x.start(1));
            CHECKS.same("none is made that was there", 5, x.layers());
        }
    }

    private static void promise12ARootLayerOfRebaseIsFound() {
        LayeredImages x = withRuns(1);
        x.build(0);
        x.tag(0);
        x.setBase(2, 11, 3);
        CHECKS.same("rebase on a new root layer", 3, x.rebase(0, 2));
        x.reset(1, 2);
        CHECKS.same("it is the root layer of a build", 2, x.start(1));
    }

    private static void promise12TheInstructionsAreTakenAtTheStart() {
        LayeredImages x = new LayeredImages();
        for (int i = 0; i < 10; i++) {
            x.addSet(0, 0, 100 + i);
        }
        x.start(0);
        CHECKS.same("the first step", 100, x.variable(x.step(), 0));
        CHECKS.same("the recipe loses its last one", 9, x.drop(0, 9));
        CHECKS.same("the second step", 101, x.variable(x.step(), 0));
        CHECKS.same("the recipe loses all", 9, x.reset(0, 2));
        CHECKS.same("eight are left", 8, x.stepsLeft());
        for (int i = 2; i < 10; i++) {
            CHECKS.same("a step", 100 + i, x.variable(x.step(), 0));
        }
        CHECKS.same("the tenth step was the last", 10, x.built());
        x.start(0);
        CHECKS.same("the recipe is empty now", 0, x.stepsLeft());
        x.addSet(0, 1, 1);
        CHECKS.same("what is added behind the start is not taken", 0, x.stepsLeft());
    }

    private static void promise13TheFirstStepFails() {
        LayeredImages x = new LayeredImages();
        x.addRemove(0, 11);
        for (int i = 0; i < 9; i++) {
            x.addRun(0, i, 0);
        }
        x.start(0);
        CHECKS.same("ten steps are left", 10, x.stepsLeft());
        CHECKS.same("the first one fails", NONE, x.step());
        CHECKS.same("the root layer alone was made", 1, x.layers());
        CHECKS.same("no miss", 0, x.misses());
        CHECKS.same("no hit", 0, x.hits());
        ended(x, NONE);
    }

    private static void promise13TheLastStepOfTenFails() {
        LayeredImages x = withRuns(9);
        x.addMove(0, 11, 10);
        x.start(0);
        for (int i = 1; i <= 9; i++) {
            CHECKS.same("step", i, x.step());
        }
        CHECKS.same("one step is left", 1, x.stepsLeft());
        CHECKS.same("it fails", NONE, x.step());
        CHECKS.same("no layer was made for it", 10, x.layers());
        CHECKS.same("the misses ahead of it", 9, x.misses());
        ended(x, NONE);
        CHECKS.same("prune behind a failed build", 10, x.prune());
    }

    private static void promise13AMissStandsOnTheLayerThatWasHit() {
        LayeredImages x = withRuns(3);
        x.build(0);
        x.drop(0, 2);
        x.addSet(0, 3, 9);
        x.start(0);
        CHECKS.same("a hit", 1, x.step());
        CHECKS.same("a hit", 2, x.step());
        CHECKS.same("a miss", 4, x.step());
        CHECKS.same("its parent was hit", 2, x.parentOf(4));
        CHECKS.same("it shows what its parent shows", x.digest(2), x.digest(4));
        CHECKS.same("hits", 2, x.hits());
        CHECKS.same("misses", 4, x.misses());
    }

    private static void promise13CopyIsAskedForInTheCacheWithTheContentOfTheStep() {
        LayeredImages x = new LayeredImages();
        x.setFile(0, 5);
        x.addCopy(0, 0, 0);
        CHECKS.same("with the content 5", 1, x.build(0));
        x.setFile(0, 6);
        x.start(0);
        x.setFile(0, 5);
        CHECKS.same("5 again when the step is taken", 1, x.step());
        x.start(0);
        x.setFile(0, 6);
        CHECKS.same("6 when the step is taken", 2, x.step());
        CHECKS.same("one hit", 1, x.hits());
        CHECKS.same("two misses", 2, x.misses());
    }

    private static void promise14NoneOneAndTenSteps() {
        int[] counts = {0, 1, 10};
        for (int count : counts) {
            LayeredImages x = withRuns(count);
            CHECKS.same("build of " + count, count, x.build(0));
            CHECKS.same("one layer for each", count + 1, x.layers());
            CHECKS.same("misses", count, x.misses());
            CHECKS.same("build again", count, x.build(0));
            CHECKS.same("hits", count, x.hits());
            ended(x, count);
        }
    }

    private static void promise14FailsAtTheFirstAndAtTheLastStep() {
        LayeredImages x = new LayeredImages();
        x.addCopy(0, 0, 0);
        x.addRun(0, 0, 0);
        CHECKS.same("the first step fails", NONE, x.build(0));
        CHECKS.same("the root layer was made", 1, x.layers());
        ended(x, NONE);
        LayeredImages y = withRuns(9);
        y.addCopy(0, 7, 0);
        CHECKS.same("the tenth step fails", NONE, y.build(0));
        CHECKS.same("those ahead of it were made", 10, y.layers());
        ended(y, NONE);
    }

    private static void promise16StaysUntilTheNextStart() {
        LayeredImages x = withRuns(2);
        x.build(0);
        x.addRun(0, 5, 0);
        x.reset(0, 1);
        x.setBase(0, 0, 9);
        x.setFile(0, 9);
        x.cleanDigest(0);
        CHECKS.same("what is written changes nothing", 2, x.built());
        x.tag(0);
        x.squash(0, 1);
        CHECKS.same("squash changes nothing", 2, x.built());
        x.rebase(0, 1);
        x.untag(0);
        CHECKS.same("rebase and untag change nothing", 2, x.built());
        CHECKS.same("the next start", 5, x.start(2));
        CHECKS.same("of an empty recipe", 5, x.built());
    }

    private static void promise16AStartThatIsRefusedIsNoStart() {
        LayeredImages x = withRuns(1);
        x.build(0);
        CHECKS.outOfBounds("start(4)", () -> x.start(4));
        CHECKS.outOfBounds("build(-1)", () -> x.build(-1));
        CHECKS.same("the latest that was started", 1, x.built());
    }

    private static void promise16ALayerInATaggedImageIsNotGone() {
        LayeredImages x = withRuns(2);
        x.build(0);
        x.tag(0);
        x.addRun(1, 0, 0);
        CHECKS.same("a layer of the tagged image", 1, x.build(1));
        CHECKS.same("all are in it", 0, x.prune());
        CHECKS.same("it is not gone", 1, x.built());
        CHECKS.same("the tag is put on it", 2, x.tag(0));
        CHECKS.same("the layer above is pruned", 1, x.prune());
        CHECKS.same("it stays", 1, x.built());
    }

    private static void promise16TheRootLayerIsGone() {
        LayeredImages x = new LayeredImages();
        CHECKS.same("a root layer", 0, x.build(0));
        CHECKS.same("it is pruned", 1, x.prune());
        CHECKS.same("it is gone", NONE, x.built());
        CHECKS.badState("tag of a gone layer", () -> x.tag(0));
        CHECKS.same("a new one", 1, x.build(0));
        CHECKS.same("which is there", 1, x.built());
        CHECKS.same("and can be tagged", NONE, x.tag(0));
    }

    private static void counts(LayeredImages x, int hits, int misses) {
        CHECKS.same("hits", hits, x.hits());
        CHECKS.same("misses", misses, x.misses());
    }

    private static void promises17And18CountStepsAlone() {
        LayeredImages x = withRuns(2);
        counts(x, 0, 0);
        x.start(0);
        counts(x, 0, 0);
        x.step();
        counts(x, 0, 1);
        x.step();
        counts(x, 0, 2);
        x.build(0);
        counts(x, 2, 2);
        x.cleanDigest(0);
        x.tag(0);
        x.squash(0, 1);
        x.rebase(0, 1);
        x.rebase(0, 1);
        counts(x, 2, 2);
        x.addRemove(1, 9);
        x.build(1);
        counts(x, 2, 2);
        CHECKS.badState("step without a build", x::step);
        CHECKS.outOfBounds("build(4)", () -> x.build(4));
        counts(x, 2, 2);
        x.prune();
        counts(x, 2, 2);
    }

    private static void promises17And18EachContentIsAnInputOfItsOwn() {
        LayeredImages x = new LayeredImages();
        int[] contents = {0, 1, 2, 4999, 5000, 9998, 9999};
        x.addCopy(0, 7, 11);
        for (int i = 0; i < contents.length; i++) {
            x.setFile(7, contents[i]);
            CHECKS.same("made with " + contents[i], i + 1, x.build(0));
        }
        counts(x, 0, contents.length);
        for (int i = 0; i < contents.length; i++) {
            x.setFile(7, contents[i]);
            CHECKS.same("found with " + contents[i], i + 1, x.build(0));
        }
        counts(x, contents.length, contents.length);
    }

    private static void promises17And18TheRecipeDoesNotMatter() {
        LayeredImages x = withRuns(2);
        x.addRun(3, 0, 0);
        x.addRun(3, 1, 0);
        CHECKS.same("build of recipe 0", 2, x.build(0));
        CHECKS.same("build of recipe 3", 2, x.build(3));
        counts(x, 2, 2);
        x.reset(3, 2);
        x.addRun(3, 0, 0);
        CHECKS.same("on another base with the same root layer", 1, x.build(3));
        counts(x, 3, 2);
    }

    private static void promises17And18LayersOfAFailedBuildAreFound() {
        LayeredImages x = withRuns(2);
        x.addRemove(0, 11);
        CHECKS.same("it fails", NONE, x.build(0));
        x.drop(0, 2);
        CHECKS.same("its layers are found", 2, x.build(0));
        counts(x, 2, 2);
    }

    private static void promises17And18AGoneChildOfALayerThatStays() {
        LayeredImages x = withRuns(3);
        x.addRun(1, 0, 0);
        x.build(0);
        x.build(1);
        x.tag(0);
        CHECKS.same("the upper two are pruned", 2, x.prune());
        x.start(0);
        CHECKS.same("the layer that stays is found", 1, x.step());
        CHECKS.same("its child is made again", 4, x.step());
        CHECKS.same("and the child of that", 5, x.step());
        counts(x, 2, 5);
        CHECKS.same("both are found then", 5, x.build(0));
        counts(x, 5, 5);
    }

    private static void promise19NoneAndTenInstructions() {
        LayeredImages x = withRuns(0);
        CHECKS.same("nothing at all", 1, x.cleanDigest(0));
        x.setBase(0, 0, 0);
        CHECKS.same("the base alone", 31, x.cleanDigest(0));
        for (int i = 0; i < 10; i++) {
            x.addRun(0, 1, 0);
        }
        int content = 0;
        for (int i = 0; i < 10; i++) {
            content = (31 * content + 1) % 10007;
        }
        CHECKS.same("ten instructions", 31 * 31 + 101 + content, x.cleanDigest(0));
        CHECKS.same("no layer was made", 0, x.layers());
        CHECKS.same("as the build shows it", x.digest(x.build(0)), x.cleanDigest(0));
    }

    private static void promise19FailsAtTheFirstAndAtTheLastInstruction() {
        LayeredImages x = new LayeredImages();
        x.addRemove(0, 0);
        x.addRun(0, 0, 0);
        CHECKS.same("REMOVE is the first", NONE, x.cleanDigest(0));
        x.reset(0, 0);
        x.addCopy(0, 0, 0);
        x.addRun(0, 0, 0);
        CHECKS.same("COPY is the first", NONE, x.cleanDigest(0));
        LayeredImages y = withRuns(9);
        y.addMove(0, 9, 0);
        CHECKS.same("MOVE is the tenth", NONE, y.cleanDigest(0));
        y.drop(0, 9);
        y.addMove(0, 8, 9);
        CHECKS.holds("a tenth that does not fail", y.cleanDigest(0) != NONE);
        CHECKS.same("no layer was made", 0, y.layers());
    }

    private static void promise19DoesNotDependOnLayersOrTheBuildThatGoesOn() {
        LayeredImages x = withRuns(2);
        x.setFile(0, 4);
        x.addCopy(0, 0, 3);
        int due = x.cleanDigest(0);
        x.start(0);
        x.step();
        CHECKS.same("while a build goes on", due, x.cleanDigest(0));
        x.step();
        x.step();
        CHECKS.same("with all layers there", due, x.cleanDigest(0));
        CHECKS.same("as they show it", due, x.digest(3));
        x.setFile(0, 5);
        CHECKS.same("with the content of now", due + 1, x.cleanDigest(0));
        x.setFile(0, 4);
        x.prune();
        CHECKS.same("with all layers gone", due, x.cleanDigest(0));
        x.addSet(1, 0, 1);
        x.build(1);
        CHECKS.same("the variables begin as 0", due, x.cleanDigest(0));
        CHECKS.same("no layer more", 6, x.layers());
    }
}
