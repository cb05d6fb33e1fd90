/** Promises 12 to 19: start, step, build, stepsLeft, built, hits, misses, cleanDigest. */
final class BuildsTest {
    private static final Checks CHECKS = new Checks("BuildsTest");
    private static final int NONE = LayeredImages.NONE;

    public static void main(String[] args) {
        promise12AnswersTheRootLayer();
        promise12FindsTheLowestRootLayer();
        promise12TakesTheRecipeAsItIs();
        promise12WrongInputsAndStates();
        promise13StepsOneByOne();
        promise13AFailedStepEndsTheBuild();
        promise13CopyTakesTheContentOfTheStep();
        promise13NoBuildGoesOn();
        promise14TakesAllSteps();
        promise14WrongInputsAndStates();
        promise15StepsLeft();
        promise16Built();
        promise16BuiltOfAGoneLayer();
        promises17And18CountHitsAndMisses();
        promises17And18TellInstructionsApart();
        promises17And18TellParentsAndInputsApart();
        promises17And18FilesAreNoInputOfOtherKinds();
        promise17GoneLayersAreNotFound();
        promise19CleanDigest();
        promise19LeavesAllAsItIs();
        promise19WrongInputs();
        CHECKS.end();
    }

    private static void promise12AnswersTheRootLayer() {
        LayeredImages x = new LayeredImages();
        x.setBase(0, 0, 1);
        x.setBase(0, 11, 2);
        CHECKS.same("start", 0, x.start(0));
        CHECKS.same("an empty recipe is complete at once", 0, x.built());
        CHECKS.same("no step is left", 0, x.stepsLeft());
        CHECKS.same("the root layer holds the base", 1, x.heldAt(0, 0));
        CHECKS.same("at all its paths", 2, x.heldAt(0, 11));
        CHECKS.same("and nothing else", 2, x.sizeOf(0));
        CHECKS.same("it has no parent", NONE, x.parentOf(0));
        for (int variable = 0; variable < 4; variable++) {
            CHECKS.same("its variables are 0", 0, x.variable(0, variable));
        }
        CHECKS.same("a root layer is no miss", 0, x.misses());
        CHECKS.same("start again", 0, x.start(0));
        CHECKS.same("a root layer is no hit", 0, x.hits());
        CHECKS.same("it is found again", 1, x.layers());
    }

    private static void promise12FindsTheLowestRootLayer() {
        LayeredImages x = new LayeredImages();
        x.setBase(1, 3, 30);
        x.setBase(2, 3, 30);
        x.reset(1, 1);
        x.reset(2, 2);
        CHECKS.same("an empty root layer", 0, x.start(0));
        CHECKS.same("the root layer of base 1", 1, x.start(1));
        CHECKS.same("base 2 shows just the same", 1, x.start(2));
        x.setBase(2, 4, 0);
        CHECKS.same("now it shows more", 2, x.start(2));
        x.setBase(2, 4, NONE);
        CHECKS.same("and as before", 1, x.start(2));
        x.setBase(2, 3, NONE);
        CHECKS.same("and nothing", 0, x.start(2));
        x.prune();
        CHECKS.same("gone root layers are not found", 3, x.start(2));
        // A layer that shows what a base shows is no root layer.
        x.setFile(0, 30);
        x.addCopy(0, 0, 3);
        CHECKS.same("a child that shows base 1", 4, x.build(0));
        CHECKS.same("is no root layer", 5, x.start(1));
    }

    private static void promise12TakesTheRecipeAsItIs() {
        LayeredImages x = new LayeredImages();
        x.setBase(1, 0, 10);
        x.addSet(0, 0, 1);
        x.addSet(0, 1, 2);
        x.start(0);
        x.setBase(0, 5, 5);
        x.reset(0, 1);
        x.addSet(0, 2, 9);
        CHECKS.same("two steps are left", 2, x.stepsLeft());
        CHECKS.same("first step", 1, x.step());
        x.addSet(0, 3, 9);
        x.drop(0, 0);
        CHECKS.same("second step", 2, x.step());
        CHECKS.same("of the instructions at the start", 1, x.variable(2, 0));
        CHECKS.same("of the instructions at the start", 2, x.variable(2, 1));
        CHECKS.same("not of later ones", 0, x.variable(2, 2));
        CHECKS.same("nor of another base", NONE, x.shownAt(2, 0));
        CHECKS.same("nor of a changed base", NONE, x.shownAt(2, 5));
        CHECKS.same("it is complete", 2, x.built());
    }

    private static void promise12WrongInputsAndStates() {
        LayeredImages x = new LayeredImages();
        CHECKS.outOfBounds("start(-1)", () -> x.start(-1));
        CHECKS.outOfBounds("start(4)", () -> x.start(4));
        CHECKS.same("no layer was made", 0, x.layers());
        x.addSet(0, 0, 1);
        x.setBase(1, 0, 1);
        x.reset(1, 1);
        x.start(0);
        CHECKS.badState("start while a build goes on", () -> x.start(1));
        CHECKS.outOfBounds("start(4) while a build goes on", () -> x.start(4));
        CHECKS.same("no layer was made", 1, x.layers());
        CHECKS.same("the build goes on", 1, x.stepsLeft());
        CHECKS.same("with its root layer", 0, x.parentOf(x.step()));
    }

    private static void promise13StepsOneByOne() {
        LayeredImages x = new LayeredImages();
        x.setFile(2, 20);
        x.addCopy(0, 2, 6);
        x.addRun(0, 6, 0);
        x.start(0);
        CHECKS.same("step", 1, x.step());
        CHECKS.same("on the root layer", 0, x.parentOf(1));
        CHECKS.same("step", 2, x.step());
        CHECKS.same("on the layer of the step before", 1, x.parentOf(2));
        CHECKS.same("RUN on what the parent shows", 621, x.shownAt(2, 6));
        x.start(0);
        CHECKS.same("found again", 1, x.step());
        CHECKS.same("found again", 2, x.step());
        CHECKS.same("no layer was made", 3, x.layers());
    }

    private static void promise13AFailedStepEndsTheBuild() {
        LayeredImages x = new LayeredImages();
        x.addRun(0, 0, 0);
        x.addCopy(0, 0, 1);
        x.addRun(0, 0, 0);
        x.start(0);
        CHECKS.same("step", 1, x.step());
        CHECKS.same("a step that fails", NONE, x.step());
        CHECKS.same("made no layer", 2, x.layers());
        CHECKS.same("nothing is left", 0, x.stepsLeft());
        CHECKS.same("nothing is built", NONE, x.built());
        CHECKS.same("it is no miss", 1, x.misses());
        CHECKS.same("it is no hit", 0, x.hits());
        CHECKS.badState("step of a failed build", x::step);
        CHECKS.same("the layers before stay", 1, x.shownAt(1, 0));
        CHECKS.same("another build can start", 0, x.start(0));
        CHECKS.same("and finds them", 1, x.step());
    }

    private static void promise13CopyTakesTheContentOfTheStep() {
        LayeredImages x = new LayeredImages();
        x.addCopy(0, 0, 0);
        x.addCopy(0, 1, 1);
        x.setFile(0, 1);
        x.start(0);
        x.setFile(0, 2);
        CHECKS.same("content of the step", 2, x.shownAt(x.step(), 0));
        x.setFile(1, 3);
        CHECKS.same("a file that was missing at the start", 3, x.shownAt(x.step(), 1));
        x.start(0);
        x.step();
        x.setFile(1, NONE);
        CHECKS.same("a file that is missing at the step", NONE, x.step());
    }

    private static void promise13NoBuildGoesOn() {
        LayeredImages x = new LayeredImages();
        CHECKS.badState("step without a build", x::step);
        x.start(0);
        CHECKS.badState("step of an empty build", x::step);
        x.addRun(0, 0, 0);
        CHECKS.badState("step of an empty build, recipe longer", x::step);
        x.build(0);
        CHECKS.badState("step of a complete build", x::step);
        CHECKS.same("built stays", 1, x.built());
        CHECKS.same("no layer was made", 2, x.layers());
    }

    private static void promise14TakesAllSteps() {
        LayeredImages x = new LayeredImages();
        CHECKS.same("build of an empty recipe", 0, x.build(3));
        x.addRun(3, 0, 0);
        x.addRun(3, 1, 0);
        CHECKS.same("build", 2, x.build(3));
        CHECKS.same("is complete", 2, x.built());
        CHECKS.same("nothing is left", 0, x.stepsLeft());
        CHECKS.same("build again", 2, x.build(3));
        x.addRemove(3, 5);
        x.addRun(3, 2, 0);
        CHECKS.same("build that fails", NONE, x.build(3));
        CHECKS.same("is not complete", NONE, x.built());
        CHECKS.same("does not go on", 0, x.stepsLeft());
        CHECKS.same("made nothing behind", 3, x.layers());
        x.drop(3, 2);
        CHECKS.same("build after one that failed", 3, x.build(3));
    }

    private static void promise14WrongInputsAndStates() {
        LayeredImages x = new LayeredImages();
        CHECKS.outOfBounds("build(-1)", () -> x.build(-1));
        CHECKS.outOfBounds("build(4)", () -> x.build(4));
        x.addRun(0, 0, 0);
        x.start(0);
        CHECKS.badState("build while one goes on", () -> x.build(1));
        CHECKS.outOfBounds("build(4) while one goes on", () -> x.build(4));
        CHECKS.same("one step is left", 1, x.stepsLeft());
        CHECKS.same("one layer was made", 1, x.layers());
    }

    private static void promise15StepsLeft() {
        LayeredImages x = new LayeredImages();
        for (int i = 0; i < 10; i++) {
            x.addRun(0, i, 0);
        }
        CHECKS.same("none before", 0, x.stepsLeft());
        x.start(0);
        for (int left = 10; left > 0; left--) {
            CHECKS.same("left", left, x.stepsLeft());
            x.step();
        }
        CHECKS.same("none behind", 0, x.stepsLeft());
    }

    private static void promise16Built() {
        LayeredImages x = new LayeredImages();
        x.addRun(0, 0, 0);
        x.addRun(1, 0, 0);
        x.addRun(1, 1, 0);
        CHECKS.same("no build was started", NONE, x.built());
        x.build(0);
        CHECKS.same("complete", 1, x.built());
        x.start(1);
        CHECKS.same("it goes on", NONE, x.built());
        x.step();
        CHECKS.same("it goes on", NONE, x.built());
        x.step();
        CHECKS.same("complete", 2, x.built());
        x.addRemove(2, 0);
        x.build(2);
        CHECKS.same("the latest has failed", NONE, x.built());
    }

    private static void promise16BuiltOfAGoneLayer() {
        LayeredImages x = new LayeredImages();
        x.addRun(0, 0, 0);
        x.build(0);
        x.tag(0);
        x.prune();
        CHECKS.same("a tagged layer is not gone", 1, x.built());
        x.untag(0);
        CHECKS.same("untag alone", 1, x.built());
        x.prune();
        CHECKS.same("its layer is gone", NONE, x.built());
        x.build(0);
        CHECKS.same("a build behind that", 3, x.built());
    }

    private static void promises17And18CountHitsAndMisses() {
        LayeredImages x = new LayeredImages();
        x.setFile(0, 1);
        x.addCopy(0, 0, 0);
        x.addRun(0, 0, 0);
        x.addSet(0, 0, 4);
        x.build(0);
        CHECKS.same("no hits", 0, x.hits());
        CHECKS.same("misses", 3, x.misses());
        x.build(0);
        CHECKS.same("hits", 3, x.hits());
        CHECKS.same("misses", 3, x.misses());
        x.setFile(0, 2);
        x.build(0);
        CHECKS.same("all behind a miss is missed", 6, x.misses());
        CHECKS.same("hits", 3, x.hits());
        x.setFile(0, 1);
        x.start(0);
        x.step();
        CHECKS.same("a hit of a step", 4, x.hits());
        x.cleanDigest(0);
        CHECKS.same("a clean digest is no hit", 4, x.hits());
        CHECKS.same("nor a miss", 6, x.misses());
    }

    private static void promises17And18TellInstructionsApart() {
        LayeredImages x = new LayeredImages();
        x.setFile(0, 9);
        x.setFile(1, 9);
        x.setBase(0, 0, 9);
        x.setBase(0, 1, 9);
        int[][] made = {
            {x.addCopy(0, 0, 1), x.build(0)},
            {x.reset(0, 0), x.addCopy(0, 1, 1), x.build(0)},
            {x.reset(0, 0), x.addCopy(0, 0, 0), x.build(0)},
            {x.reset(0, 0), x.addRun(0, 0, 1), x.build(0)},
            {x.reset(0, 0), x.addRun(0, 0, 2), x.build(0)},
            {x.reset(0, 0), x.addRun(0, 1, 1), x.build(0)},
            {x.reset(0, 0), x.addMove(0, 0, 1), x.build(0)},
            {x.reset(0, 0), x.addMove(0, 1, 0), x.build(0)},
            {x.reset(0, 0), x.addMove(0, 0, 2), x.build(0)},
            {x.reset(0, 0), x.addRemove(0, 0), x.build(0)},
            {x.reset(0, 0), x.addRemove(0, 1), x.build(0)},
            {x.reset(0, 0), x.addSet(0, 0, 1), x.build(0)},
            {x.reset(0, 0), x.addSet(0, 1, 1), x.build(0)},
            {x.reset(0, 0), x.addSet(0, 0, 2), x.build(0)},
        };
        for (int i = 0; i < made.length; i++) {
            CHECKS.same("each has a layer of its own", i + 1, made[i][made[i].length - 1]);
        }
        CHECKS.same("all were missed", made.length, x.misses());
        CHECKS.same("none was hit", 0, x.hits());
    }

    private static void promises17And18TellParentsAndInputsApart() {
        LayeredImages x = new LayeredImages();
        x.setBase(1, 0, 1);
        x.reset(1, 1);
        x.addRun(0, 5, 0);
        x.addRun(1, 5, 0);
        CHECKS.same("on one parent", 1, x.build(0));
        CHECKS.same("on another parent", 3, x.build(1));
        CHECKS.same("on the first one again", 1, x.build(0));
        x.addRun(1, 6, 0);
        CHECKS.same("on the younger parent", 4, x.build(1));
        x.addRun(0, 6, 0);
        CHECKS.same("then on the older one", 5, x.build(0));
        x.drop(0, 1);
        // The base does not matter but for the root layer that it gives.
        x.setBase(0, 0, 1);
        CHECKS.same("another base, the same root layer", 3, x.build(0));
        x.reset(2, 2);
        x.addCopy(2, 4, 4);
        x.setFile(4, 0);
        CHECKS.same("one input", 6, x.build(2));
        x.setFile(4, 1);
        CHECKS.same("another input", 7, x.build(2));
        x.setFile(4, 0);
        CHECKS.same("the first one again", 6, x.build(2));
    }

    private static void promises17And18FilesAreNoInputOfOtherKinds() {
        LayeredImages x = new LayeredImages();
        x.setBase(0, 3, 1);
        x.addRun(0, 0, 0);
        x.addMove(0, 3, 1);
        x.addRemove(0, 1);
        x.addSet(0, 2, 3);
        x.build(0);
        for (int file = 0; file < 8; file++) {
            x.setFile(file, 5);
        }
        CHECKS.same("found again", 4, x.build(0));
        CHECKS.same("all of them", 4, x.hits());
    }

    private static void promise17GoneLayersAreNotFound() {
        LayeredImages x = new LayeredImages();
        x.addRun(0, 0, 0);
        x.addRun(1, 0, 0);
        x.addRun(1, 1, 0);
        x.build(0);
        x.tag(0);
        CHECKS.same("build", 2, x.build(1));
        CHECKS.same("pruned", 1, x.prune());
        CHECKS.same("a new layer instead of the gone one", 3, x.build(1));
        CHECKS.same("one hit", 2, x.hits());
        CHECKS.same("misses", 3, x.misses());
    }

    private static void promise19CleanDigest() {
        LayeredImages x = new LayeredImages();
        x.setBase(0, 3, 5);
        x.setFile(0, 7);
        CHECKS.same("of the base alone", 31 + 303 + 5, x.cleanDigest(0));
        x.addCopy(0, 0, 1);
        x.addRun(0, 1, 0);
        x.addSet(0, 0, 9);
        x.addRun(0, 1, 0);
        x.addMove(0, 3, 2);
        x.addRemove(0, 1);
        x.addRun(0, 3, 0);
        int due = x.cleanDigest(0);
        CHECKS.same("as the build shows it", due, x.digest(x.build(0)));
        CHECKS.same("path 2 and path 3", (31 * (31 + 202 + 5) + 303 + 10), due);
        x.setBase(0, 3, 6);
        CHECKS.same("of the base now", (31 * (31 + 202 + 6) + 303 + 10), x.cleanDigest(0));
        x.setFile(0, NONE);
        CHECKS.same("it would fail now", NONE, x.cleanDigest(0));
        x.reset(0, 2);
        x.addMove(0, 0, 1);
        CHECKS.same("MOVE would fail", NONE, x.cleanDigest(0));
        x.reset(0, 2);
        x.addRemove(0, 0);
        x.addRun(0, 0, 0);
        CHECKS.same("REMOVE would fail", NONE, x.cleanDigest(0));
        x.reset(0, 2);
        CHECKS.same("of nothing", 1, x.cleanDigest(0));
    }

    private static void promise19LeavesAllAsItIs() {
        LayeredImages x = new LayeredImages();
        x.addRun(0, 0, 0);
        x.addRun(0, 0, 0);
        x.addRun(1, 1, 0);
        x.start(0);
        x.step();
        CHECKS.same("while a build goes on", 31 + 101 + 1, x.cleanDigest(1));
        CHECKS.same("the build goes on", 1, x.stepsLeft());
        CHECKS.same("no layer was made", 2, x.layers());
        CHECKS.same("no hit", 0, x.hits());
        CHECKS.same("no miss", 1, x.misses());
        CHECKS.same("the next step", 32, x.shownAt(x.step(), 0));
        CHECKS.same("the base stays", NONE, x.setBase(0, 1, NONE));
        CHECKS.same("clean again", 31 + 101 + 1, x.cleanDigest(1));
    }

    private static void promise19WrongInputs() {
        LayeredImages x = new LayeredImages();
        CHECKS.outOfBounds("cleanDigest(-1)", () -> x.cleanDigest(-1));
        CHECKS.outOfBounds("cleanDigest(4)", () -> x.cleanDigest(4));
    }
}
