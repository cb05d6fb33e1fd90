import java.util.ArrayList;
import java.util.List;

/**
 * All that can be seen of an object, as a list of answers. To see the recipes, the cache and the
 * files, it calls what changes the object, so that an object is read but once, at the end.
 */
final class Reading {
    // The latest ones alone, so that an object of 400 layers is read within its 512 calls.
    private static final int LAYERS_READ = 6;

    private final LayeredImages x;
    private final List<String> answers = new ArrayList<>();

    private Reading(LayeredImages x) {
        this.x = x;
    }

    static List<String> of(LayeredImages x) {
        Reading reading = new Reading(x);
        reading.readCounts();
        reading.readLayers();
        reading.goOn();
        reading.buildAll();
        reading.readFilesAndBases();
        return reading.answers;
    }

    private void note(String call, Checks.Call answer) {
        String got;
        try {
            got = String.valueOf(answer.answer());
        } catch (RuntimeException e) {
            got = e.getClass().getSimpleName();
        }
        answers.add(call + " " + got);
    }

    private void readCounts() {
        note("layers", x::layers);
        note("hits", x::hits);
        note("misses", x::misses);
        note("stepsLeft", x::stepsLeft);
        note("built", x::built);
        for (int tag = 0; tag < 5; tag++) {
            int asked = tag;
            note("tagged " + tag, () -> x.tagged(asked));
        }
        for (int recipe = 0; recipe < 4; recipe++) {
            int asked = recipe;
            note("instructions " + recipe, () -> x.instructions(asked));
            note("cleanDigest " + recipe, () -> x.cleanDigest(asked));
        }
    }

    private void readLayers() {
        for (int layer = Math.max(0, x.layers() - LAYERS_READ); layer < x.layers(); layer++) {
            int asked = layer;
            note("parentOf " + layer, () -> x.parentOf(asked));
            note("depth " + layer, () -> x.depth(asked));
            note("imageSize " + layer, () -> x.imageSize(asked));
            for (int path = 0; path < 12; path++) {
                int at = path;
                note("heldAt " + layer + " " + path, () -> x.heldAt(asked, at));
            }
            readContents(layer);
        }
    }

    private void readContents(int layer) {
        note("sizeOf " + layer, () -> x.sizeOf(layer));
        note("digest " + layer, () -> x.digest(layer));
        for (int variable = 0; variable < 4; variable++) {
            int asked = variable;
            note("variable " + layer + " " + variable, () -> x.variable(layer, asked));
        }
    }

    private void goOn() {
        while (x.stepsLeft() > 0) {
            int layer = x.step();
            answers.add("step " + layer);
            readContents(layer);
        }
        note("built behind it", x::built);
    }

    private void buildAll() {
        for (int recipe = 0; recipe < 4; recipe++) {
            int before = x.layers();
            int asked = recipe;
            note("build " + recipe, () -> x.build(asked));
            for (int layer = before; layer < x.layers(); layer++) {
                readContents(layer);
            }
        }
        note("hits", x::hits);
        note("misses", x::misses);
        note("prune", x::prune);
    }

    private void readFilesAndBases() {
        for (int file = 0; file < 8; file++) {
            int asked = file;
            note("file " + file, () -> x.setFile(asked, 0));
        }
        for (int base = 0; base < 3; base++) {
            for (int path = 0; path < 12; path++) {
                int asked = base;
                int at = path;
                note("base " + base + " " + path, () -> x.setBase(asked, at, 0));
            }
        }
    }
}
