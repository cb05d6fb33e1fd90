/**
 * Each exception of each throws clause, in each state of the object in which it is due; where
 * several apply, the one that the clause names first; and that a call that throws changes nothing.
 */
final class RefusedCallsTest {
    private static final Checks CHECKS = new Checks("RefusedCallsTest");
    private static final Class<IndexOutOfBoundsException> BOUNDS = IndexOutOfBoundsException.class;
    private static final Class<IllegalArgumentException> ARGUMENT = IllegalArgumentException.class;
    private static final Class<IllegalStateException> STATE = IllegalStateException.class;

    public static void main(String[] args) {
        everyStateIsAsItsNameSays();
        promises2And3IndexAheadOfContent();
        promises5To9AFullRecipe();
        promises5To9IndexAheadOfAFullRecipe();
        promises7And9ArgumentAheadOfAFullRecipe();
        promises7And9IndexAheadOfArgument();
        promise10DropOfAnEmptyRecipe();
        promises12And14WhileABuildGoesOn();
        promises12And14At400Layers();
        promises12And14IndexAheadOfState();
        promise13NoBuildGoesOn();
        promise20BuiltIsNone();
        promise20IndexAheadOfState();
        promise23TheTagStandsForNoLayer();
        promise23At400Layers();
        promise23IndexAheadOfState();
        promise24TheTagStandsForNoLayer();
        promise24At400Layers();
        promise24IndexAheadOfState();
        promise25WhileABuildGoesOn();
        CHECKS.end();
    }

    private static void refused(String call, Class<? extends RuntimeException> due,
                                Checks.CallOn made, Examples... states) {
        for (Examples state : states) {
            CHECKS.refused(call, due, state, made);
        }
    }

    /** All states but NEW, in which no recipe is full and no tag stands for a layer. */
    private static Examples[] used() {
        return new Examples[] {Examples.COMPLETE, Examples.FAILED, Examples.GOING_ON,
            Examples.CLOSED, Examples.CLOSED_GOING_ON};
    }

    private static void everyStateIsAsItsNameSays() {
        int[][] due = {
            // layers, stepsLeft, built, tagged 0, instructions 0 and 1
            {0, 0, -1, -1, 0, 0},
            {5, 0, 3, 3, 3, 10},
            {6, 0, -1, 3, 3, 10},
            {5, 2, -1, 3, 3, 10},
            {400, 0, 399, 3, 3, 10},
            {401, 9, -1, 3, 3, 10},
        };
        for (Examples state : Examples.values()) {
            LayeredImages x = state.make();
            int[] got = {x.layers(), x.stepsLeft(), x.built(), x.tagged(0), x.instructions(0),
                x.instructions(1)};
            for (int i = 0; i < got.length; i++) {
                CHECKS.same(state + ", number " + i, due[state.ordinal()][i], got[i]);
            }
        }
    }

    private static void promises2And3IndexAheadOfContent() {
        Examples[] all = Examples.values();
        refused("setFile(-1, -2)", BOUNDS, x -> x.setFile(-1, -2), all);
        refused("setFile(8, 10000)", BOUNDS, x -> x.setFile(8, 10000), all);
        refused("setBase(-1, 0, -2)", BOUNDS, x -> x.setBase(-1, 0, -2), all);
        refused("setBase(3, 0, 10000)", BOUNDS, x -> x.setBase(3, 0, 10000), all);
        refused("setBase(0, -1, -2)", BOUNDS, x -> x.setBase(0, -1, -2), all);
        refused("setBase(0, 12, 10000)", BOUNDS, x -> x.setBase(0, 12, 10000), all);
    }

    private static void promises5To9AFullRecipe() {
        refused("addCopy, full", STATE, x -> x.addCopy(1, 0, 0), used());
        refused("addRun, full", STATE, x -> x.addRun(1, 0, 0), used());
        refused("addMove, full", STATE, x -> x.addMove(1, 0, 1), used());
        refused("addRemove, full", STATE, x -> x.addRemove(1, 0), used());
        refused("addSet, full", STATE, x -> x.addSet(1, 0, 0), used());
    }

    private static void promises5To9IndexAheadOfAFullRecipe() {
        refused("addCopy(1, 8, 0), full", BOUNDS, x -> x.addCopy(1, 8, 0), used());
        refused("addCopy(1, 0, 12), full", BOUNDS, x -> x.addCopy(1, 0, 12), used());
        refused("addRun(1, 12, 0), full", BOUNDS, x -> x.addRun(1, 12, 0), used());
        refused("addRun(1, 0, 4), full", BOUNDS, x -> x.addRun(1, 0, 4), used());
        refused("addMove(1, 12, 0), full", BOUNDS, x -> x.addMove(1, 12, 0), used());
        refused("addMove(1, 0, 12), full", BOUNDS, x -> x.addMove(1, 0, 12), used());
        refused("addRemove(1, 12), full", BOUNDS, x -> x.addRemove(1, 12), used());
        refused("addSet(1, 4, 0), full", BOUNDS, x -> x.addSet(1, 4, 0), used());
        refused("addSet(1, 4, 1000), full", BOUNDS, x -> x.addSet(1, 4, 1000), used());
    }

    private static void promises7And9ArgumentAheadOfAFullRecipe() {
        refused("addMove(1, 0, 0), full", ARGUMENT, x -> x.addMove(1, 0, 0), used());
        refused("addMove(1, 11, 11), full", ARGUMENT, x -> x.addMove(1, 11, 11), used());
        refused("addSet(1, 0, -1), full", ARGUMENT, x -> x.addSet(1, 0, -1), used());
        refused("addSet(1, 0, 1000), full", ARGUMENT, x -> x.addSet(1, 0, 1000), used());
    }

    private static void promises7And9IndexAheadOfArgument() {
        Examples[] all = Examples.values();
        refused("addMove(-1, 0, 0)", BOUNDS, x -> x.addMove(-1, 0, 0), all);
        refused("addMove(4, 0, 0)", BOUNDS, x -> x.addMove(4, 0, 0), all);
        refused("addMove(0, -1, -1)", BOUNDS, x -> x.addMove(0, -1, -1), all);
        refused("addMove(0, 12, 12)", BOUNDS, x -> x.addMove(0, 12, 12), all);
        refused("addSet(-1, 0, -1)", BOUNDS, x -> x.addSet(-1, 0, -1), all);
        refused("addSet(4, 0, 1000)", BOUNDS, x -> x.addSet(4, 0, 1000), all);
        refused("addSet(0, -1, 1000)", BOUNDS, x -> x.addSet(0, -1, 1000), all);
        refused("addSet(0, 4, -1)", BOUNDS, x -> x.addSet(0, 4, -1), all);
    }

    private static void promise10DropOfAnEmptyRecipe() {
        refused("drop(3, 0)", BOUNDS, x -> x.drop(3, 0), Examples.values());
        refused("drop(0, 0)", BOUNDS, x -> x.drop(0, 0), Examples.NEW);
    }

    private static void promises12And14WhileABuildGoesOn() {
        for (int recipe = 0; recipe < 4; recipe++) {
            int asked = recipe;
            refused("start " + recipe, STATE, x -> x.start(asked),
                    Examples.GOING_ON, Examples.CLOSED_GOING_ON);
            refused("build " + recipe, STATE, x -> x.build(asked),
                    Examples.GOING_ON, Examples.CLOSED_GOING_ON);
        }
    }

    private static void promises12And14At400Layers() {
        for (int recipe = 0; recipe < 4; recipe++) {
            int asked = recipe;
            refused("start " + recipe, STATE, x -> x.start(asked), Examples.CLOSED);
            refused("build " + recipe, STATE, x -> x.build(asked), Examples.CLOSED);
        }
    }

    private static void promises12And14IndexAheadOfState() {
        Examples[] states = {Examples.GOING_ON, Examples.CLOSED, Examples.CLOSED_GOING_ON};
        refused("start(-1)", BOUNDS, x -> x.start(-1), states);
        refused("start(4)", BOUNDS, x -> x.start(4), states);
        refused("build(-1)", BOUNDS, x -> x.build(-1), states);
        refused("build(4)", BOUNDS, x -> x.build(4), states);
    }

    private static void promise13NoBuildGoesOn() {
        refused("step", STATE, LayeredImages::step,
                Examples.NEW, Examples.COMPLETE, Examples.FAILED, Examples.CLOSED);
    }

    private static void promise20BuiltIsNone() {
        for (int tag = 0; tag < 5; tag++) {
            int asked = tag;
            refused("tag " + tag, STATE, x -> x.tag(asked),
                    Examples.NEW, Examples.FAILED, Examples.GOING_ON, Examples.CLOSED_GOING_ON);
        }
    }

    private static void promise20IndexAheadOfState() {
        Examples[] states = {Examples.NEW, Examples.FAILED, Examples.GOING_ON,
            Examples.CLOSED_GOING_ON};
        refused("tag(-1)", BOUNDS, x -> x.tag(-1), states);
        refused("tag(5)", BOUNDS, x -> x.tag(5), states);
    }

    private static void promise23TheTagStandsForNoLayer() {
        Examples[] all = Examples.values();
        refused("squash(1, 1)", STATE, x -> x.squash(1, 1), all);
        refused("squash(4, 10)", STATE, x -> x.squash(4, 10), all);
        refused("squash(4, 11)", STATE, x -> x.squash(4, 11), all);
        refused("squash(3, MAX)", STATE, x -> x.squash(3, Integer.MAX_VALUE), all);
    }

    private static void promise23At400Layers() {
        for (int place = 1; place <= 3; place++) {
            int asked = place;
            refused("squash at place " + place, STATE, x -> x.squash(0, asked),
                    Examples.CLOSED, Examples.CLOSED_GOING_ON);
        }
    }

    private static void promise23IndexAheadOfState() {
        Examples[] all = Examples.values();
        refused("squash(5, 1)", BOUNDS, x -> x.squash(5, 1), all);
        refused("squash(1, 0) of no image", BOUNDS, x -> x.squash(1, 0), all);
        refused("squash(1, -1) of no image", BOUNDS, x -> x.squash(1, -1), all);
        refused("squash(0, 4)", BOUNDS, x -> x.squash(0, 4), used());
        refused("squash(0, 0)", BOUNDS, x -> x.squash(0, 0), used());
    }

    private static void promise24TheTagStandsForNoLayer() {
        for (int base = 0; base < 3; base++) {
            int asked = base;
            refused("rebase(1, " + base + ")", STATE, x -> x.rebase(1, asked), Examples.values());
            refused("rebase(4, " + base + ")", STATE, x -> x.rebase(4, asked), Examples.values());
        }
    }

    private static void promise24At400Layers() {
        for (int base = 0; base < 3; base++) {
            int asked = base;
            refused("rebase(0, " + base + ")", STATE, x -> x.rebase(0, asked),
                    Examples.CLOSED, Examples.CLOSED_GOING_ON);
        }
    }

    private static void promise24IndexAheadOfState() {
        Examples[] all = Examples.values();
        refused("rebase(5, 0)", BOUNDS, x -> x.rebase(5, 0), all);
        refused("rebase(1, 3) of no image", BOUNDS, x -> x.rebase(1, 3), all);
        refused("rebase(1, -1) of no image", BOUNDS, x -> x.rebase(1, -1), all);
        refused("rebase(0, 3)", BOUNDS, x -> x.rebase(0, 3), all);
    }

    private static void promise25WhileABuildGoesOn() {
        refused("prune", STATE, LayeredImages::prune, Examples.GOING_ON, Examples.CLOSED_GOING_ON);
    }
}
