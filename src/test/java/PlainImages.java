import java.util.ArrayList;
import java.util.HashMap;
import java.util.List;
import java.util.Map;
import java.util.TreeMap;

/**
 * The document once more, written as differently from LayeredImages as its words allow: nothing
 * that can be worked out is kept, and what a layer shows is looked up along its image each time.
 */
final class PlainImages {
    private static final int NONE = -1;
    private static final int WHITEOUT = -2;

    /** What a layer was made from; the cache compares the key of a step of a build. */
    private record Layer(Integer parent, Map<Integer, Integer> difference, List<Integer> values,
                         String key) { }

    private record Recipe(int base, List<int[]> instructions) { }

    private final Map<Integer, Integer> files = new HashMap<>();
    private final List<Map<Integer, Integer>> bases = new ArrayList<>();
    private final List<Recipe> recipes = new ArrayList<>();
    private final TreeMap<Integer, Layer> layers = new TreeMap<>();
    private final Map<Integer, Integer> tags = new HashMap<>();
    private final List<int[]> waiting = new ArrayList<>();
    private Integer reached;
    private int made;
    private int hits;
    private int misses;

    PlainImages() {
        for (int base = 0; base < 3; base++) {
            bases.add(new TreeMap<>());
        }
        for (int recipe = 0; recipe < 4; recipe++) {
            recipes.add(new Recipe(0, new ArrayList<>()));
        }
    }

    private static void bounds(boolean right) {
        if (!right) {
            throw new IndexOutOfBoundsException();
        }
    }

    private static void argument(boolean right) {
        if (!right) {
            throw new IllegalArgumentException();
        }
    }

    private static void state(boolean right) {
        if (!right) {
            throw new IllegalStateException();
        }
    }

    private static boolean from0To(int highest, int number) {
        return 0 <= number && number <= highest;
    }

    private static int put(Map<Integer, Integer> map, int key, int content) {
        Integer before = content == NONE ? map.remove(key) : map.put(key, content);
        return before == null ? NONE : before;
    }

    int setFile(int file, int content) {
        bounds(from0To(7, file));
        argument(content == NONE || from0To(9999, content));
        return put(files, file, content);
    }

    int setBase(int base, int path, int content) {
        bounds(from0To(2, base) && from0To(11, path));
        argument(content == NONE || from0To(9999, content));
        return put(bases.get(base), path, content);
    }

    int reset(int recipe, int base) {
        bounds(from0To(3, recipe) && from0To(2, base));
        return recipes.set(recipe, new Recipe(base, new ArrayList<>())).instructions().size();
    }

    private int add(int recipe, int... instruction) {
        List<int[]> row = recipes.get(recipe).instructions();
        state(row.size() < 10);
        row.add(instruction);
        return row.size();
    }

    int addCopy(int recipe, int file, int path) {
        bounds(from0To(3, recipe) && from0To(7, file) && from0To(11, path));
        return add(recipe, 'C', file, path);
    }

    int addRun(int recipe, int path, int variable) {
        bounds(from0To(3, recipe) && from0To(11, path) && from0To(3, variable));
        return add(recipe, 'R', path, variable);
    }

    int addMove(int recipe, int from, int to) {
        bounds(from0To(3, recipe) && from0To(11, from) && from0To(11, to));
        argument(from != to);
        return add(recipe, 'M', from, to);
    }

    int addRemove(int recipe, int path) {
        bounds(from0To(3, recipe) && from0To(11, path));
        return add(recipe, 'D', path, 0);
    }

    int addSet(int recipe, int variable, int value) {
        bounds(from0To(3, recipe) && from0To(3, variable));
        argument(from0To(999, value));
        return add(recipe, 'S', variable, value);
    }

    int drop(int recipe, int instruction) {
        bounds(from0To(3, recipe));
        List<int[]> row = recipes.get(recipe).instructions();
        bounds(from0To(row.size() - 1, instruction));
        row.remove(instruction);
        return row.size();
    }

    int instructions(int recipe) {
        bounds(from0To(3, recipe));
        return recipes.get(recipe).instructions().size();
    }

    private int make(Integer parent, Map<Integer, Integer> difference, List<Integer> values,
                     String key) {
        layers.put(made, new Layer(parent, difference, values, key));
        return made++;
    }

    private int rootOf(int base) {
        Map<Integer, Integer> contents = bases.get(base);
        for (Map.Entry<Integer, Layer> entry : layers.entrySet()) {
            Layer layer = entry.getValue();
            if (layer.parent() == null && layer.difference().equals(contents)) {
                return entry.getKey();
            }
        }
        return make(null, new TreeMap<>(contents), List.of(0, 0, 0, 0), "");
    }

    int start(int recipe) {
        bounds(from0To(3, recipe));
        state(waiting.isEmpty() && made < 400);
        reached = rootOf(recipes.get(recipe).base());
        waiting.addAll(recipes.get(recipe).instructions());
        return reached;
    }

    /** The difference that an instruction makes on what is shown; null if it fails. */
    private Map<Integer, Integer> difference(int[] instruction, Map<Integer, Integer> shown,
                                             List<Integer> values) {
        int first = instruction[1];
        int second = instruction[2];
        switch (instruction[0]) {
            case 'C':
                return files.containsKey(first) ? Map.of(second, files.get(first)) : null;
            case 'R':
                int content = (31 * shown.getOrDefault(first, 0) + values.get(second) + 1) % 10007;
                return Map.of(first, content);
            case 'M':
                return shown.containsKey(first)
                        ? Map.of(second, shown.get(first), first, WHITEOUT) : null;
            case 'D':
                return shown.containsKey(first) ? Map.of(first, WHITEOUT) : null;
            default:
                return Map.of();
        }
    }

    private static List<Integer> valuesBehind(int[] instruction, List<Integer> values) {
        List<Integer> behind = new ArrayList<>(values);
        if (instruction[0] == 'S') {
            behind.set(instruction[1], instruction[2]);
        }
        return behind;
    }

    private static Map<Integer, Integer> onTop(Map<Integer, Integer> below,
                                               Map<Integer, Integer> difference) {
        Map<Integer, Integer> shown = new TreeMap<>(below);
        shown.putAll(difference);
        shown.values().removeIf(content -> content == WHITEOUT);
        return shown;
    }

    private Map<Integer, Integer> shown(int layer) {
        Map<Integer, Integer> shown = new TreeMap<>();
        for (int part : image(layer)) {
            shown = onTop(shown, layers.get(part).difference());
        }
        return shown;
    }

    /** The numbers of an image, the root layer first. */
    private List<Integer> image(int layer) {
        List<Integer> image = new ArrayList<>();
        for (Integer part = layer; part != null; part = layers.get(part).parent()) {
            image.add(0, part);
        }
        return image;
    }

    int step() {
        state(!waiting.isEmpty());
        int[] instruction = waiting.remove(0);
        Layer parent = layers.get(reached);
        Map<Integer, Integer> difference =
                difference(instruction, shown(reached), parent.values());
        if (difference == null) {
            waiting.clear();
            reached = null;
            return NONE;
        }
        Integer input = instruction[0] == 'C' ? files.get(instruction[1]) : null;
        String key = reached + " " + java.util.Arrays.toString(instruction) + " " + input;
        for (Map.Entry<Integer, Layer> entry : layers.entrySet()) {
            if (entry.getValue().key().equals(key)) {
                hits++;
                reached = entry.getKey();
                return reached;
            }
        }
        misses++;
        reached = make(reached, difference, valuesBehind(instruction, parent.values()), key);
        return reached;
    }

    int build(int recipe) {
        start(recipe);
        while (!waiting.isEmpty()) {
            step();
        }
        return built();
    }

    int stepsLeft() {
        return waiting.size();
    }

    int built() {
        return waiting.isEmpty() && reached != null && layers.containsKey(reached) ? reached : NONE;
    }

    int hits() {
        return hits;
    }

    int misses() {
        return misses;
    }

    int cleanDigest(int recipe) {
        bounds(from0To(3, recipe));
        Map<Integer, Integer> shown = bases.get(recipes.get(recipe).base());
        List<Integer> values = List.of(0, 0, 0, 0);
        for (int[] instruction : recipes.get(recipe).instructions()) {
            Map<Integer, Integer> difference = difference(instruction, shown, values);
            if (difference == null) {
                return NONE;
            }
            shown = onTop(shown, difference);
            values = valuesBehind(instruction, values);
        }
        return digestOf(shown);
    }

    int tag(int tag) {
        bounds(from0To(4, tag));
        state(built() != NONE);
        return put(tags, tag, built());
    }

    int untag(int tag) {
        bounds(from0To(4, tag));
        return put(tags, tag, NONE);
    }

    int tagged(int tag) {
        bounds(from0To(4, tag));
        return tags.getOrDefault(tag, NONE);
    }

    int squash(int tag, int place) {
        bounds(from0To(4, tag) && place >= 1);
        Integer top = tags.get(tag);
        bounds(top == null || place < image(top).size());
        state(top != null && made < 400);
        int parent = image(top).get(place - 1);
        Map<Integer, Integer> due = shown(top);
        Map<Integer, Integer> difference = new TreeMap<>(due);
        for (Map.Entry<Integer, Integer> below : shown(parent).entrySet()) {
            if (!due.containsKey(below.getKey())) {
                difference.put(below.getKey(), WHITEOUT);
            } else if (due.get(below.getKey()).equals(below.getValue())) {
                difference.remove(below.getKey());
            }
        }
        int squashed = make(parent, difference, layers.get(top).values(), "");
        tags.put(tag, squashed);
        return squashed;
    }

    int rebase(int tag, int base) {
        bounds(from0To(4, tag) && from0To(2, base));
        Integer top = tags.get(tag);
        state(top != null && made < 400);
        List<Integer> image = image(top);
        int moved = rootOf(base);
        for (int old : image.subList(1, image.size())) {
            Map<Integer, Integer> below = shown(moved);
            Map<Integer, Integer> difference = new TreeMap<>(layers.get(old).difference());
            difference.entrySet().removeIf(
                    entry -> entry.getValue() == WHITEOUT && !below.containsKey(entry.getKey()));
            moved = make(moved, difference, layers.get(old).values(), "");
        }
        tags.put(tag, moved);
        return moved;
    }

    int prune() {
        state(waiting.isEmpty());
        List<Integer> kept = new ArrayList<>();
        tags.values().forEach(top -> kept.addAll(image(top)));
        int before = layers.size();
        layers.keySet().retainAll(kept);
        return before - layers.size();
    }

    int layers() {
        return made;
    }

    private Layer at(int layer) {
        bounds(layers.containsKey(layer));
        return layers.get(layer);
    }

    int parentOf(int layer) {
        Integer parent = at(layer).parent();
        return parent == null ? NONE : parent;
    }

    int sizeOf(int layer) {
        return at(layer).difference().size();
    }

    int heldAt(int layer, int path) {
        bounds(layers.containsKey(layer) && from0To(11, path));
        return at(layer).difference().getOrDefault(path, NONE);
    }

    int shownAt(int layer, int path) {
        bounds(layers.containsKey(layer) && from0To(11, path));
        return shown(layer).getOrDefault(path, NONE);
    }

    int variable(int layer, int variable) {
        bounds(layers.containsKey(layer) && from0To(3, variable));
        return at(layer).values().get(variable);
    }

    int depth(int layer) {
        bounds(layers.containsKey(layer));
        return image(layer).size();
    }

    int imageSize(int layer) {
        bounds(layers.containsKey(layer));
        return image(layer).stream().mapToInt(this::sizeOf).sum();
    }

    int digest(int layer) {
        bounds(layers.containsKey(layer));
        return digestOf(shown(layer));
    }

    private static int digestOf(Map<Integer, Integer> shown) {
        long digest = 1;
        for (Map.Entry<Integer, Integer> entry : new TreeMap<>(shown).entrySet()) {
            digest = (31 * digest + 101 * entry.getKey() + entry.getValue()) % 1000003;
        }
        return (int) digest;
    }
}
