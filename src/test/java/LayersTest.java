/** Promises 26 to 34: what is asked about layers. */
final class LayersTest {
    private static final Checks CHECKS = new Checks("LayersTest");
    private static final int NONE = LayeredImages.NONE;
    private static final int WHITEOUT = LayeredImages.WHITEOUT;

    public static void main(String[] args) {
        promise26Layers();
        promise27ParentOf();
        promise28SizeOf();
        promise29HeldAt();
        promise30ShownAt();
        promise31Variable();
        promise32Depth();
        promise33ImageSize();
        promise34Digest();
        promise34DigestWithRemainder();
        promises27To34OfNoLayer();
        CHECKS.end();
    }

    /** Layers: 0 root (0: 5, 11: 9999), 1 MOVE 0 4, 2 SET 3 8, 3 RUN 4 3, 4 REMOVE 11. */
    private static LayeredImages withImage() {
        LayeredImages x = new LayeredImages();
        x.setBase(0, 0, 5);
        x.setBase(0, 11, 9999);
        x.addMove(0, 0, 4);
        x.addSet(0, 3, 8);
        x.addRun(0, 4, 3);
        x.addRemove(0, 11);
        x.build(0);
        return x;
    }

    private static void promise26Layers() {
        LayeredImages x = withImage();
        CHECKS.same("layers", 5, x.layers());
        x.build(0);
        CHECKS.same("hits make none", 5, x.layers());
        x.prune();
        CHECKS.same("gone ones are counted", 5, x.layers());
        x.start(0);
        CHECKS.same("one more", 6, x.layers());
    }

    private static void promise27ParentOf() {
        LayeredImages x = withImage();
        CHECKS.same("of the root layer", NONE, x.parentOf(0));
        for (int layer = 1; layer <= 4; layer++) {
            CHECKS.same("of a child", layer - 1, x.parentOf(layer));
        }
    }

    private static void promise28SizeOf() {
        LayeredImages x = withImage();
        int[] due = {2, 2, 0, 1, 1};
        for (int layer = 0; layer <= 4; layer++) {
            CHECKS.same("sizeOf " + layer, due[layer], x.sizeOf(layer));
        }
        x.reset(1, 1);
        CHECKS.same("of an empty root layer", 0, x.sizeOf(x.start(1)));
    }

    private static void promise29HeldAt() {
        LayeredImages x = withImage();
        CHECKS.same("content of the root layer", 5, x.heldAt(0, 0));
        CHECKS.same("nothing in the root layer", NONE, x.heldAt(0, 4));
        CHECKS.same("WHITEOUT", WHITEOUT, x.heldAt(1, 0));
        CHECKS.same("content", 5, x.heldAt(1, 4));
        CHECKS.same("nothing, though the parent shows some", NONE, x.heldAt(1, 11));
        CHECKS.same("SET holds nothing", NONE, x.heldAt(2, 4));
        CHECKS.outOfBounds("heldAt(0, -1)", () -> x.heldAt(0, -1));
        CHECKS.outOfBounds("heldAt(0, 12)", () -> x.heldAt(0, 12));
        CHECKS.outOfBounds("heldAt(5, 12)", () -> x.heldAt(5, 12));
    }

    private static void promise30ShownAt() {
        LayeredImages x = withImage();
        CHECKS.same("root layer", 5, x.shownAt(0, 0));
        CHECKS.same("root layer, none", NONE, x.shownAt(0, 1));
        CHECKS.same("hidden", NONE, x.shownAt(1, 0));
        CHECKS.same("hidden further down", NONE, x.shownAt(4, 0));
        CHECKS.same("held further down", 5, x.shownAt(2, 4));
        CHECKS.same("held here", 31 * 5 + 8 + 1, x.shownAt(3, 4));
        CHECKS.same("shown by the root layer", 9999, x.shownAt(3, 11));
        CHECKS.same("hidden here", NONE, x.shownAt(4, 11));
        CHECKS.outOfBounds("shownAt(0, -1)", () -> x.shownAt(0, -1));
        CHECKS.outOfBounds("shownAt(0, 12)", () -> x.shownAt(0, 12));
        CHECKS.outOfBounds("shownAt(5, 12)", () -> x.shownAt(5, 12));
    }

    private static void promise31Variable() {
        LayeredImages x = withImage();
        CHECKS.same("before SET", 0, x.variable(1, 3));
        CHECKS.same("of SET", 8, x.variable(2, 3));
        CHECKS.same("behind SET", 8, x.variable(4, 3));
        CHECKS.same("another variable", 0, x.variable(4, 0));
        CHECKS.outOfBounds("variable(0, -1)", () -> x.variable(0, -1));
        CHECKS.outOfBounds("variable(0, 4)", () -> x.variable(0, 4));
        CHECKS.outOfBounds("variable(5, 4)", () -> x.variable(5, 4));
    }

    private static void promise32Depth() {
        LayeredImages x = withImage();
        for (int layer = 0; layer <= 4; layer++) {
            CHECKS.same("depth", layer + 1, x.depth(layer));
        }
        x.tag(0);
        CHECKS.same("depth of a squashed layer", 3, x.depth(x.squash(0, 2)));
    }

    private static void promise33ImageSize() {
        LayeredImages x = withImage();
        int[] due = {2, 4, 4, 5, 6};
        for (int layer = 0; layer <= 4; layer++) {
            CHECKS.same("imageSize " + layer, due[layer], x.imageSize(layer));
        }
        x.reset(1, 1);
        CHECKS.same("of an empty root layer", 0, x.imageSize(x.start(1)));
    }

    private static void promise34Digest() {
        LayeredImages x = withImage();
        CHECKS.same("path 4 alone", 31 + 404 + 164, x.digest(4));
        CHECKS.same("path 4 and path 11", 31 * (31 + 404 + 5) + 1111 + 9999, x.digest(1));
        x.reset(1, 1);
        CHECKS.same("of nothing", 1, x.digest(x.start(1)));
        x.setBase(1, 0, 0);
        CHECKS.same("path 0, content 0", 31, x.digest(x.start(1)));
    }

    private static void promise34DigestWithRemainder() {
        LayeredImages x = new LayeredImages();
        long due = 1;
        for (int path = 0; path < 12; path++) {
            x.setBase(0, path, 9999 - path);
            due = (31 * due + 101 * path + 9999 - path) % 1000003;
        }
        CHECKS.same("of twelve contents", due, x.digest(x.start(0)));
    }

    private static void promises27To34OfNoLayer() {
        LayeredImages x = withImage();
        int[] wrong = {-1, -2, 5, 400, 419, 420, 421, Integer.MAX_VALUE, Integer.MIN_VALUE};
        for (int layer : wrong) {
            CHECKS.outOfBounds("parentOf " + layer, () -> x.parentOf(layer));
            CHECKS.outOfBounds("sizeOf " + layer, () -> x.sizeOf(layer));
            CHECKS.outOfBounds("heldAt " + layer, () -> x.heldAt(layer, 0));
            CHECKS.outOfBounds("shownAt " + layer, () -> x.shownAt(layer, 0));
            CHECKS.outOfBounds("variable " + layer, () -> x.variable(layer, 0));
            CHECKS.outOfBounds("depth " + layer, () -> x.depth(layer));
            CHECKS.outOfBounds("imageSize " + layer, () -> x.imageSize(layer));
            CHECKS.outOfBounds("digest " + layer, () -> x.digest(layer));
        }
    }
}
