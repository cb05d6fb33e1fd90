import java.util.Arrays;

public final class LayeredImages {
    public static final int NONE = -1;
    public static final int WHITEOUT = -2;

    private static final int FILES = 8;
    private static final int BASES = 3;
    private static final int PATHS = 12;
    private static final int VARIABLES = 4;
    private static final int RECIPES = 4;
    private static final int TAGS = 5;
    private static final int HIGHEST_CONTENT = 9999;
    private static final int HIGHEST_VALUE = 999;
    private static final int MOST_INSTRUCTIONS = 10;
    private static final int LAYERS_THAT_CLOSE = 400;
    // From 399 layers a rebase may make 11 more, and a build that goes on then 10 more.
    private static final int MOST_LAYERS = 420;

    private static final int COPY = 0;
    private static final int RUN = 1;
    private static final int MOVE = 2;
    private static final int REMOVE = 3;
    private static final int SET = 4;

    private final int[] files = new int[FILES];
    private final int[][] bases = new int[BASES][PATHS];
    private final Recipe[] recipes = new Recipe[RECIPES];
    private final Layer[] tags = new Layer[TAGS];
    private final Store store = new Store();
    private final Build latest = new Build();
    private int hits;
    private int misses;

    public LayeredImages() {
        Arrays.fill(files, NONE);
        for (int base = 0; base < BASES; base++) {
            Arrays.fill(bases[base], NONE);
        }
        for (int recipe = 0; recipe < RECIPES; recipe++) {
            recipes[recipe] = new Recipe();
        }
    }

    // ---- files and bases

    public int setFile(int file, int content)
            throws IndexOutOfBoundsException, IllegalArgumentException {
        requireIndex(file, FILES);
        requireContent(content);
        int before = files[file];
        files[file] = content;
        return before;
    }

    public int setBase(int base, int path, int content)
            throws IndexOutOfBoundsException, IllegalArgumentException {
        requireIndex(base, BASES);
        requireIndex(path, PATHS);
        requireContent(content);
        int before = bases[base][path];
        bases[base][path] = content;
        return before;
    }

    // ---- recipes

    public int reset(int recipe, int base) throws IndexOutOfBoundsException {
        Recipe plan = recipeAt(recipe);
        requireIndex(base, BASES);
        int before = plan.count;
        plan.clearOn(base);
        return before;
    }

    public int addCopy(int recipe, int file, int path)
            throws IndexOutOfBoundsException, IllegalStateException {
        requireIndex(recipe, RECIPES);
        requireIndex(file, FILES);
        requireIndex(path, PATHS);
        return addInstruction(recipe, COPY, file, path);
    }

    public int addRun(int recipe, int path, int variable)
            throws IndexOutOfBoundsException, IllegalStateException {
        requireIndex(recipe, RECIPES);
        requireIndex(path, PATHS);
        requireIndex(variable, VARIABLES);
        return addInstruction(recipe, RUN, path, variable);
    }

    public int addMove(int recipe, int from, int to)
            throws IndexOutOfBoundsException, IllegalArgumentException, IllegalStateException {
        requireIndex(recipe, RECIPES);
        requireIndex(from, PATHS);
        requireIndex(to, PATHS);
        if (from == to) {
            throw new IllegalArgumentException("from and to are the same path");
        }
        return addInstruction(recipe, MOVE, from, to);
    }

    public int addRemove(int recipe, int path)
            throws IndexOutOfBoundsException, IllegalStateException {
        requireIndex(recipe, RECIPES);
        requireIndex(path, PATHS);
        return addInstruction(recipe, REMOVE, path, NONE);
    }

    public int addSet(int recipe, int variable, int value)
            throws IndexOutOfBoundsException, IllegalArgumentException, IllegalStateException {
        requireIndex(recipe, RECIPES);
        requireIndex(variable, VARIABLES);
        if (value < 0 || value > HIGHEST_VALUE) {
            throw new IllegalArgumentException("the value is out of range");
        }
        return addInstruction(recipe, SET, variable, value);
    }

    public int drop(int recipe, int instruction) throws IndexOutOfBoundsException {
        Recipe plan = recipeAt(recipe);
        requireIndex(instruction, plan.count);
        plan.removeAt(instruction);
        return plan.count;
    }

    public int instructions(int recipe) throws IndexOutOfBoundsException {
        return recipeAt(recipe).count;
    }

    // ---- builds

    public int start(int recipe) throws IndexOutOfBoundsException, IllegalStateException {
        Recipe plan = recipeAt(recipe);
        requireNoBuild();
        requireOpen();
        Layer root = rootFor(plan.base);
        latest.begin(plan, root);
        return root.number;
    }

    public int step() throws IllegalStateException {
        Instruction next = latest.upcoming();
        Layer parent = latest.layer;
        if (next == null || parent == null) {
            throw new IllegalStateException("no build goes on");
        }
        int input = next.inputFrom(files);
        if (next.failsOn(parent, input)) {
            latest.fail();
            return NONE;
        }
        Layer layer = layerOfStep(parent, next, input);
        latest.advanceTo(layer);
        return layer.number;
    }

    public int build(int recipe) throws IndexOutOfBoundsException, IllegalStateException {
        start(recipe);
        for (int taken = 0; taken < MOST_INSTRUCTIONS && latest.goesOn(); taken++) {
            step();
        }
        return built();
    }

    public int stepsLeft() {
        return latest.left();
    }

    public int built() {
        return numberOf(latest.finished());
    }

    public int hits() {
        return hits;
    }

    public int misses() {
        return misses;
    }

    public int cleanDigest(int recipe) throws IndexOutOfBoundsException {
        Recipe plan = recipeAt(recipe);
        Layer draft = new Layer(NONE, contentsOf(plan.base));
        for (int i = 0; i < plan.count; i++) {
            Instruction next = plan.at(i);
            if (next == null) {
                return NONE;
            }
            int input = next.inputFrom(files);
            if (next.failsOn(draft, input)) {
                return NONE;
            }
            next.carryOut(draft, input);
        }
        return draft.fingerprint();
    }

    // ---- tags

    public int tag(int tag) throws IndexOutOfBoundsException, IllegalStateException {
        requireIndex(tag, TAGS);
        Layer layer = latest.finished();
        if (layer == null) {
            throw new IllegalStateException("no build is complete, or its layer is gone");
        }
        int before = numberOf(tags[tag]);
        tags[tag] = layer;
        return before;
    }

    public int untag(int tag) throws IndexOutOfBoundsException {
        requireIndex(tag, TAGS);
        int before = numberOf(tags[tag]);
        tags[tag] = null;
        return before;
    }

    public int tagged(int tag) throws IndexOutOfBoundsException {
        requireIndex(tag, TAGS);
        return numberOf(tags[tag]);
    }

    public int squash(int tag, int place) throws IndexOutOfBoundsException, IllegalStateException {
        requireIndex(tag, TAGS);
        Layer top = tags[tag];
        if (place < 1 || (top != null && place > top.place)) {
            throw new IndexOutOfBoundsException("the image has no such place");
        }
        if (top == null) {
            throw new IllegalStateException("the tag stands for no layer");
        }
        requireOpen();
        Layer squashed = store.newChild(top.partAt(place - 1));
        squashed.showLike(top);
        tags[tag] = squashed;
        return squashed.number;
    }

    public int rebase(int tag, int base) throws IndexOutOfBoundsException, IllegalStateException {
        requireIndex(tag, TAGS);
        requireIndex(base, BASES);
        Layer top = tags[tag];
        if (top == null) {
            throw new IllegalStateException("the tag stands for no layer");
        }
        requireOpen();
        Layer moved = rootFor(base);
        for (int place = 1; place <= top.place; place++) {
            moved = store.newChild(moved);
            moved.holdLike(top.partAt(place));
        }
        tags[tag] = moved;
        return moved.number;
    }

    public int prune() throws IllegalStateException {
        requireNoBuild();
        int pruned = 0;
        for (int number = 0; number < store.made; number++) {
            Layer layer = store.find(number);
            if (layer != null && !isInTaggedImage(layer)) {
                store.remove(number);
                latest.forget(layer);
                pruned++;
            }
        }
        return pruned;
    }

    // ---- layers

    public int layers() {
        return store.made;
    }

    public int parentOf(int layer) throws IndexOutOfBoundsException {
        return numberOf(layerAt(layer).parent);
    }

    public int sizeOf(int layer) throws IndexOutOfBoundsException {
        return layerAt(layer).size();
    }

    public int heldAt(int layer, int path) throws IndexOutOfBoundsException {
        Layer asked = layerAt(layer);
        requireIndex(path, PATHS);
        return asked.holds(path);
    }

    public int shownAt(int layer, int path) throws IndexOutOfBoundsException {
        Layer asked = layerAt(layer);
        requireIndex(path, PATHS);
        return asked.shows(path);
    }

    public int variable(int layer, int variable) throws IndexOutOfBoundsException {
        Layer asked = layerAt(layer);
        requireIndex(variable, VARIABLES);
        return asked.value(variable);
    }

    public int depth(int layer) throws IndexOutOfBoundsException {
        return layerAt(layer).place + 1;
    }

    public int imageSize(int layer) throws IndexOutOfBoundsException {
        int size = 0;
        for (Layer part = layerAt(layer); part != null; part = part.parent) {
            size += part.size();
        }
        return size;
    }

    public int digest(int layer) throws IndexOutOfBoundsException {
        return layerAt(layer).fingerprint();
    }

    // ---- what the methods above share

    private static boolean isIn(int index, int length) {
        return index >= 0 && index < length;
    }

    private static void requireIndex(int index, int length) {
        if (!isIn(index, length)) {
            throw new IndexOutOfBoundsException("there is none of this number");
        }
    }

    private static void requireContent(int content) {
        if (content != NONE && (content < 0 || content > HIGHEST_CONTENT)) {
            throw new IllegalArgumentException("the content is out of range");
        }
    }

    private void requireNoBuild() {
        if (latest.goesOn()) {
            throw new IllegalStateException("a build goes on");
        }
    }

    private void requireOpen() {
        if (store.made >= LAYERS_THAT_CLOSE) {
            throw new IllegalStateException("too many layers were made");
        }
    }

    private static int numberOf(Layer layer) {
        return layer == null ? NONE : layer.number;
    }

    private Recipe recipeAt(int recipe) {
        Recipe found = isIn(recipe, RECIPES) ? recipes[recipe] : null;
        if (found == null) {
            throw new IndexOutOfBoundsException("there is no such recipe");
        }
        return found;
    }

    private Layer layerAt(int layer) {
        Layer found = store.find(layer);
        if (found == null) {
            throw new IndexOutOfBoundsException("there is no such layer, or it is gone");
        }
        return found;
    }

    private int[] contentsOf(int base) {
        requireIndex(base, BASES);
        return bases[base];
    }

    private int addInstruction(int recipe, int kind, int first, int second) {
        Recipe plan = recipeAt(recipe);
        if (plan.count >= MOST_INSTRUCTIONS) {
            throw new IllegalStateException("the recipe is full");
        }
        plan.append(new Instruction(kind, first, second));
        return plan.count;
    }

    private Layer rootFor(int base) {
        int[] contents = contentsOf(base);
        Layer found = store.findRoot(contents);
        return found == null ? store.newRoot(contents) : found;
    }

    private Layer layerOfStep(Layer parent, Instruction maker, int input) {
        Layer cached = store.findMade(parent, maker, input);
        if (cached != null) {
            hits++;
            return cached;
        }
        misses++;
        Layer made = store.newChild(parent);
        made.becomeMadeBy(maker, input);
        return made;
    }

    private boolean isInTaggedImage(Layer layer) {
        for (Layer top : tags) {
            if (top != null && top.partAt(layer.place) == layer) {
                return true;
            }
        }
        return false;
    }

    private static final class Instruction {
        private final int kind;
        private final int first;
        private final int second;

        private Instruction(int kind, int first, int second) {
            this.kind = kind;
            this.first = first;
            this.second = second;
        }

        private boolean isSameAs(Instruction other) {
            return kind == other.kind && first == other.first && second == other.second;
        }

        private int inputFrom(int[] contents) {
            return kind == COPY && isIn(first, contents.length) ? contents[first] : NONE;
        }

        private boolean failsOn(Layer parent, int input) {
            switch (kind) {
                case COPY:
                    return input == NONE;
                case MOVE:
                case REMOVE:
                    return parent.shows(first) == NONE;
                default:
                    return false;
            }
        }

        // The layer still shows what its parent shows, so that the parent need not be asked.
        private void carryOut(Layer layer, int input) {
            switch (kind) {
                case COPY:
                    layer.hold(second, input);
                    break;
                case RUN:
                    layer.hold(first, runOn(layer.shows(first), layer.value(second)));
                    break;
                case MOVE:
                    layer.hold(second, layer.shows(first));
                    layer.hold(first, WHITEOUT);
                    break;
                case REMOVE:
                    layer.hold(first, WHITEOUT);
                    break;
                case SET:
                    layer.assign(first, second);
                    break;
                default:
                    break;
            }
        }

        private static int runOn(int shown, int value) {
            int content = shown == NONE ? 0 : shown;
            return (31 * content + value + 1) % 10007;
        }
    }

    private static final class Recipe {
        private final Instruction[] row = new Instruction[MOST_INSTRUCTIONS];
        private int base;
        private int count;

        private Instruction at(int place) {
            return isIn(place, row.length) ? row[place] : null;
        }

        private void clearOn(int newBase) {
            base = newBase;
            count = 0;
        }

        private void append(Instruction instruction) {
            if (isIn(count, row.length)) {
                row[count] = instruction;
                count++;
            }
        }

        private void removeAt(int place) {
            if (isIn(place, count)) {
                for (int i = place; i + 1 < row.length; i++) {
                    row[i] = row[i + 1];
                }
                count--;
            }
        }

        private void becomeLike(Recipe other) {
            clearOn(other.base);
            for (int i = 0; i < other.count; i++) {
                append(other.at(i));
            }
        }
    }

    private static final class Build {
        // A copy, for the recipe may be changed while the build goes on.
        private final Recipe plan = new Recipe();
        private int taken;
        private Layer layer;

        private void begin(Recipe recipe, Layer root) {
            plan.becomeLike(recipe);
            taken = 0;
            layer = root;
        }

        private int left() {
            return plan.count - taken;
        }

        private boolean goesOn() {
            return left() > 0;
        }

        private Instruction upcoming() {
            return goesOn() ? plan.at(taken) : null;
        }

        private void advanceTo(Layer reached) {
            layer = reached;
            taken++;
        }

        private void fail() {
            layer = null;
            taken = plan.count;
        }

        private Layer finished() {
            return goesOn() ? null : layer;
        }

        private void forget(Layer gone) {
            if (layer == gone) {
                layer = null;
            }
        }
    }

    private static final class Store {
        // A layer that is gone leaves its place empty, for numbers are not given again.
        private final Layer[] row = new Layer[MOST_LAYERS];
        private int made;

        private Layer find(int number) {
            return isIn(number, row.length) ? row[number] : null;
        }

        private Layer findRoot(int[] contents) {
            for (int number = 0; number < made; number++) {
                Layer layer = find(number);
                if (layer != null && layer.isRootOf(contents)) {
                    return layer;
                }
            }
            return null;
        }

        private Layer findMade(Layer parent, Instruction maker, int input) {
            // A layer is younger than its parent, so that the search can begin behind it.
            for (int number = parent.number + 1; number < made; number++) {
                Layer layer = find(number);
                if (layer != null && layer.parent == parent && layer.wasMadeBy(maker, input)) {
                    return layer;
                }
            }
            return null;
        }

        private Layer newRoot(int[] contents) {
            return kept(new Layer(made, contents));
        }

        private Layer newChild(Layer parent) {
            return kept(new Layer(made, parent));
        }

        private Layer kept(Layer layer) {
            if (!isIn(made, row.length)) {
                throw new IllegalStateException("there is no room for a layer");
            }
            row[made] = layer;
            made++;
            return layer;
        }

        private void remove(int number) {
            if (isIn(number, row.length)) {
                row[number] = null;
            }
        }
    }

    private static final class Layer {
        private final int number;
        private final Layer parent;
        private final int place;
        private final int[] held = new int[PATHS];
        // What is shown is kept too, so that no question has to go down the image.
        private final int[] shown = new int[PATHS];
        private final int[] values = new int[VARIABLES];
        private Instruction maker;
        private int input = NONE;

        private Layer(int number, int[] contents) {
            this.number = number;
            this.parent = null;
            this.place = 0;
            for (int path = 0; path < PATHS; path++) {
                int content = path < contents.length ? contents[path] : NONE;
                held[path] = content;
                shown[path] = content;
            }
        }

        private Layer(int number, Layer parent) {
            this.number = number;
            this.parent = parent;
            this.place = parent.place + 1;
            for (int path = 0; path < PATHS; path++) {
                held[path] = NONE;
                shown[path] = parent.shown[path];
            }
            for (int variable = 0; variable < VARIABLES; variable++) {
                values[variable] = parent.values[variable];
            }
        }

        private int holds(int path) {
            return isIn(path, PATHS) ? held[path] : NONE;
        }

        private int shows(int path) {
            return isIn(path, PATHS) ? shown[path] : NONE;
        }

        private int value(int variable) {
            return isIn(variable, VARIABLES) ? values[variable] : 0;
        }

        private void hold(int path, int content) {
            if (isIn(path, PATHS)) {
                held[path] = content;
                shown[path] = content == WHITEOUT ? NONE : content;
            }
        }

        private void assign(int variable, int value) {
            if (isIn(variable, VARIABLES)) {
                values[variable] = value;
            }
        }

        private void assignLike(Layer other) {
            for (int variable = 0; variable < VARIABLES; variable++) {
                values[variable] = other.values[variable];
            }
        }

        private void becomeMadeBy(Instruction instruction, int itsInput) {
            maker = instruction;
            input = itsInput;
            instruction.carryOut(this, itsInput);
        }

        private boolean wasMadeBy(Instruction instruction, int itsInput) {
            return maker != null && maker.isSameAs(instruction) && input == itsInput;
        }

        private boolean isRootOf(int[] contents) {
            if (parent != null) {
                return false;
            }
            for (int path = 0; path < PATHS && path < contents.length; path++) {
                if (held[path] != contents[path]) {
                    return false;
                }
            }
            return true;
        }

        private void showLike(Layer other) {
            for (int path = 0; path < PATHS; path++) {
                int due = other.shown[path];
                if (due != shown[path]) {
                    hold(path, due == NONE ? WHITEOUT : due);
                }
            }
            assignLike(other);
        }

        private void holdLike(Layer other) {
            for (int path = 0; path < PATHS; path++) {
                int due = other.held[path];
                boolean hidesNothing = due == WHITEOUT && shown[path] == NONE;
                if (due != NONE && !hidesNothing) {
                    hold(path, due);
                }
            }
            assignLike(other);
        }

        private Layer partAt(int wanted) {
            Layer found = this;
            while (found.place > wanted && found.parent != null) {
                found = found.parent;
            }
            return found;
        }

        private int size() {
            int size = 0;
            for (int path = 0; path < PATHS; path++) {
                if (held[path] != NONE) {
                    size++;
                }
            }
            return size;
        }

        private int fingerprint() {
            int digest = 1;
            for (int path = 0; path < PATHS; path++) {
                if (shown[path] != NONE) {
                    digest = (31 * digest + 101 * path + shown[path]) % 1000003;
                }
            }
            return digest;
        }
    }
}
