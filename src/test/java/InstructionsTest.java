import java.util.Arrays;

/** Each instruction with each of its numbers: what it makes, and what stays as in the parent. */
final class InstructionsTest {
    private static final Checks CHECKS = new Checks("InstructionsTest");
    private static final int NONE = LayeredImages.NONE;
    private static final int WHITEOUT = LayeredImages.WHITEOUT;
    private static final int PATHS = 12;
    private static final int VARIABLES = 4;

    public static void main(String[] args) {
        promises5To9AreAddedToTheirRecipe();
        promise5CopyOfEachFileToEachPath();
        promise6RunOfEachVariableAtEachPath();
        promise7MoveFromEachPathToEachOther();
        promise8RemoveAtEachPath();
        promise9SetOfEachVariable();
        tenInstructionsOfAllKindsInTheirOrder();
        promises4To11LeaveABuildThatGoesOn();
        CHECKS.end();
    }

    /** Base 0 shows 50 + path at each path; recipe 0 gives each variable 100 + its number. */
    private static LayeredImages withContentsAndValues() {
        LayeredImages x = new LayeredImages();
        for (int path = 0; path < PATHS; path++) {
            x.setBase(0, path, 50 + path);
        }
        for (int variable = 0; variable < VARIABLES; variable++) {
            x.addSet(0, variable, 100 + variable);
        }
        return x;
    }

    private static int[] nothingHeld() {
        int[] held = new int[PATHS];
        Arrays.fill(held, NONE);
        return held;
    }

    private static int[] valuesSet() {
        return new int[] {100, 101, 102, 103};
    }

    /** The layer of the last instruction holds just this, and all else is as in its parent. */
    private static void differsJustBy(String what, LayeredImages x, int[] held, int[] values) {
        int layer = x.build(0);
        CHECKS.same(what + ", a step on four others", 5, layer);
        CHECKS.same(what + ", its parent", 4, x.parentOf(layer));
        for (int path = 0; path < PATHS; path++) {
            int hidden = held[path] == WHITEOUT ? NONE : held[path];
            int shown = held[path] == NONE ? 50 + path : hidden;
            CHECKS.same(what + ", held at " + path, held[path], x.heldAt(layer, path));
            CHECKS.same(what + ", shown at " + path, shown, x.shownAt(layer, path));
        }
        for (int variable = 0; variable < VARIABLES; variable++) {
            CHECKS.same(what + ", variable " + variable, values[variable],
                    x.variable(layer, variable));
        }
    }

    private static int add(LayeredImages x, int kind, int recipe) {
        switch (kind) {
            case 0: return x.addCopy(recipe, 7, 11);
            case 1: return x.addRun(recipe, 11, 3);
            case 2: return x.addMove(recipe, 10, 11);
            case 3: return x.addRemove(recipe, 11);
            default: return x.addSet(recipe, 0, 500);
        }
    }

    private static void promises5To9AreAddedToTheirRecipe() {
        for (int kind = 0; kind < 5; kind++) {
            LayeredImages x = new LayeredImages();
            for (int recipe = 0; recipe < 4; recipe++) {
                CHECKS.same("the first of kind " + kind, 1, add(x, kind, recipe));
                CHECKS.same("the second of kind " + kind, 2, add(x, kind, recipe));
                for (int asked = 0; asked < 4; asked++) {
                    int due = asked <= recipe ? 2 : 0;
                    CHECKS.same("instructions of recipe " + asked, due, x.instructions(asked));
                }
            }
        }
    }

    private static void promise5CopyOfEachFileToEachPath() {
        for (int file = 0; file < 8; file++) {
            for (int path = 0; path < PATHS; path++) {
                LayeredImages x = withContentsAndValues();
                for (int other = 0; other < 8; other++) {
                    x.setFile(other, 20 + other);
                }
                int[] held = nothingHeld();
                held[path] = 20 + file;
                CHECKS.same("addCopy", 5, x.addCopy(0, file, path));
                differsJustBy("COPY " + file + " " + path, x, held, valuesSet());
            }
        }
    }

    private static void promise6RunOfEachVariableAtEachPath() {
        for (int variable = 0; variable < VARIABLES; variable++) {
            for (int path = 0; path < PATHS; path++) {
                LayeredImages x = withContentsAndValues();
                int[] held = nothingHeld();
                held[path] = 31 * (50 + path) + 100 + variable + 1;
                CHECKS.same("addRun", 5, x.addRun(0, path, variable));
                differsJustBy("RUN " + path + " " + variable, x, held, valuesSet());
            }
        }
    }

    private static void promise7MoveFromEachPathToEachOther() {
        for (int from = 0; from < PATHS; from++) {
            for (int to = 0; to < PATHS; to++) {
                if (from != to) {
                    LayeredImages x = withContentsAndValues();
                    int[] held = nothingHeld();
                    held[to] = 50 + from;
                    held[from] = WHITEOUT;
                    CHECKS.same("addMove", 5, x.addMove(0, from, to));
                    differsJustBy("MOVE " + from + " " + to, x, held, valuesSet());
                }
            }
        }
    }

    private static void promise8RemoveAtEachPath() {
        for (int path = 0; path < PATHS; path++) {
            LayeredImages x = withContentsAndValues();
            int[] held = nothingHeld();
            held[path] = WHITEOUT;
            CHECKS.same("addRemove", 5, x.addRemove(0, path));
            differsJustBy("REMOVE " + path, x, held, valuesSet());
        }
    }

    private static void promise9SetOfEachVariable() {
        int[] tried = {0, 1, 998, 999};
        for (int variable = 0; variable < VARIABLES; variable++) {
            for (int value : tried) {
                LayeredImages x = withContentsAndValues();
                int[] values = valuesSet();
                values[variable] = value;
                CHECKS.same("addSet", 5, x.addSet(0, variable, value));
                differsJustBy("SET " + variable + " " + value, x, nothingHeld(), values);
            }
        }
    }

    private static void tenInstructionsOfAllKindsInTheirOrder() {
        LayeredImages x = new LayeredImages();
        x.setFile(1, 8);
        x.setFile(2, 6);
        x.addCopy(2, 1, 0);
        x.addRun(2, 0, 1);
        x.addSet(2, 1, 40);
        x.addRun(2, 0, 1);
        x.addMove(2, 0, 3);
        x.addCopy(2, 2, 0);
        x.addRemove(2, 3);
        x.addRun(2, 3, 1);
        x.addMove(2, 3, 0);
        x.addSet(2, 1, 41);
        int[] shownAtPath0 = {NONE, 8, 249, 249, 7760, NONE, 6, 6, 6, 41, 41};
        int[] shownAtPath3 = {NONE, NONE, NONE, NONE, NONE, 7760, 7760, NONE, 41, NONE, NONE};
        int[] valueOfVariable1 = {0, 0, 0, 40, 40, 40, 40, 40, 40, 40, 41};
        CHECKS.same("a clean build does the same", 31 + 41, x.cleanDigest(2));
        CHECKS.same("ten steps", 10, x.build(2));
        CHECKS.same("what is shown in the end", 31 + 41, x.digest(10));
        for (int layer = 0; layer <= 10; layer++) {
            CHECKS.same("path 0 in " + layer, shownAtPath0[layer], x.shownAt(layer, 0));
            CHECKS.same("path 3 in " + layer, shownAtPath3[layer], x.shownAt(layer, 3));
            CHECKS.same("variable 1 in " + layer, valueOfVariable1[layer], x.variable(layer, 1));
        }
    }

    private static int change(LayeredImages x, int call) {
        switch (call) {
            case 5: return x.reset(0, 1);
            case 6: return x.drop(0, 0);
            case 7: return x.instructions(0);
            default: return add(x, call, 0);
        }
    }

    /** File 7 is missing and paths 10 and 11 show none: most of what is added would fail. */
    private static void promises4To11LeaveABuildThatGoesOn() {
        int[] instructionsThen = {5, 5, 5, 5, 5, 0, 1, 3};
        for (int call = 0; call < instructionsThen.length; call++) {
            LayeredImages x = new LayeredImages();
            x.setBase(1, 0, 9);
            x.addSet(0, 0, 1);
            x.addRun(0, 0, 0);
            x.addRun(0, 1, 0);
            CHECKS.same("start", 0, x.start(0));
            CHECKS.same("the first step", 1, x.step());
            change(x, call);
            CHECKS.same("two steps are left", 2, x.stepsLeft());
            CHECKS.same("the second step", 2, x.step());
            change(x, call);
            CHECKS.same("one step is left", 1, x.stepsLeft());
            CHECKS.same("the last step", 3, x.step());
            CHECKS.same("it is complete", 3, x.built());
            CHECKS.same("with RUN at path 0", 2, x.shownAt(3, 0));
            CHECKS.same("and at path 1", 2, x.shownAt(3, 1));
            CHECKS.same("and the value of SET", 1, x.variable(3, 0));
            x.start(0);
            CHECKS.same("the next start takes what is there then", instructionsThen[call],
                    x.stepsLeft());
        }
    }
}
