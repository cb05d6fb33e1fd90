/** Promises 26 to 34: what is asked about layers. */
final class LayersTest {
    private static final Checks CHECKS = new Checks("LayersTest");
    private static final int NONE = LayeredImages.NONE;
    private static final int WHITEOUT = LayeredImages.WHITEOUT;

    public static void main(String[] args) {
        promise26Layers();
        promise27ParentOf();
        promise28SizeOf();
        promise29HeldAt();
        promise30ShownAt();
        promise31Variable();
        promise32Depth();
        promise33ImageSize();
        promise34Digest();
        promise34DigestWithRemainder();
        promise34DigestAtEachPathAlone();
        promise34DigestAtTheEdgesOfTheRemainder();
        promise34DigestOfContentsAbove9999();
        promises26To34OfAnObjectWithoutLayers();
        promise27ParentOfLayersOfSquashAndRebase();
        promise28And33TheGreatestSizes();
        promise29And30AtEachPath();
        promise31EachVariableOfEachLayer();
        promise32DepthFrom1To11();
        promises27To34OfNoLayer();
        CHECKS.end();
    }

    /** Layers: 0 root (0: 5, 11: 9999), 1 MOVE 0 4, 2 SET 3 8, 3 RUN 4 3, 4 REMOVE 11. */
    private static LayeredImages withImage() {
        LayeredImages x = new LayeredImages();
        x.setBase(0, 0, 5);
        x.setBase(0, 11, 9999);
        x.addMove(0, 0, 4);
        x.addSet(0, 3, 8);
        x.addRun(0, 4, 3);
        x.addRemove(0, 11);
        x.build(0);
        return x;
    }

    private static void promise26Layers() {
        LayeredImages x = withImage();
        CHECKS.same("layers", 5, x.layers());
        x.build(0);
        CHECKS.same("hits make none", 5, x.layers());
        x.prune();
        CHECKS.same("gone ones are counted", 5, x.layers());
        x.start(0);
        CHECKS.same("one more", 6, x.layers());
    }

    private static void promise27ParentOf() {
        LayeredImages x = withImage();
        CHECKS.same("of the root layer", NONE, x.parentOf(0));
        for (int layer = 1; layer <= 4; layer++) {
            CHECKS.same("of a child", layer - 1, x.parentOf(layer));
        }
    }

    private static void promise28SizeOf() {
        LayeredImages x = withImage();
        int[] due = {2, 2, 0, 1, 1};
        for (int layer = 0; layer <= 4; layer++) {
            CHECKS.same("sizeOf " + layer, due[layer], x.sizeOf(layer));
        }
        x.reset(1, 1);
        CHECKS.same("of an empty root layer", 0, x.sizeOf(x.start(1)));
    }

    private static void promise29HeldAt() {
        LayeredImages x = withImage();
        CHECKS.same("content of the root layer", 5, x.heldAt(0, 0));
        CHECKS.same("nothing in the root layer", NONE, x.heldAt(0, 4));
        CHECKS.same("WHITEOUT", WHITEOUT, x.heldAt(1, 0));
        CHECKS.same("content", 5, x.heldAt(1, 4));
        CHECKS.same("nothing, though the parent shows some", NONE, x.heldAt(1, 11));
        CHECKS.same("SET holds nothing", NONE, x.heldAt(2, 4));
        CHECKS.same("content of RUN", 164, x.heldAt(3, 4));
        CHECKS.same("nothing beside it", NONE, x.heldAt(3, 0));
        CHECKS.same("WHITEOUT over a root layer", WHITEOUT, x.heldAt(4, 11));
        CHECKS.outOfBounds("heldAt(0, -1)", () -> x.heldAt(0, -1));
        CHECKS.outOfBounds("heldAt(0, 12)", () -> x.heldAt(0, 12));
        CHECKS.outOfBounds("heldAt(5, 12)", () -> x.heldAt(5, 12));
    }

    private static void promise30ShownAt() {
        LayeredImages x = withImage();
        CHECKS.same("root layer", 5, x.shownAt(0, 0));
        CHECKS.same("root layer, none", NONE, x.shownAt(0, 1));
        CHECKS.same("hidden", NONE, x.shownAt(1, 0));
        CHECKS.same("hidden further down", NONE, x.shownAt(4, 0));
        CHECKS.same("held further down", 5, x.shownAt(2, 4));
        CHECKS.same("held here", 31 * 5 + 8 + 1, x.shownAt(3, 4));
        CHECKS.same("shown by the root layer", 9999, x.shownAt(3, 11));
        CHECKS.same("hidden here", NONE, x.shownAt(4, 11));
        CHECKS.outOfBounds("shownAt(0, -1)", () -> x.shownAt(0, -1));
        CHECKS.outOfBounds("shownAt(0, 12)", () -> x.shownAt(0, 12));
        CHECKS.outOfBounds("shownAt(5, 12)", () -> x.shownAt(5, 12));
    }

    private static void promise31Variable() {
        LayeredImages x = withImage();
        CHECKS.same("before SET", 0, x.variable(1, 3));
        CHECKS.same("of SET", 8, x.variable(2, 3));
        CHECKS.same("behind SET", 8, x.variable(4, 3));
        CHECKS.same("another variable", 0, x.variable(4, 0));
        CHECKS.outOfBounds("variable(0, -1)", () -> x.variable(0, -1));
        CHECKS.outOfBounds("variable(0, 4)", () -> x.variable(0, 4));
        CHECKS.outOfBounds("variable(5, 4)", () -> x.variable(5, 4));
    }

    private static void promise32Depth() {
        LayeredImages x = withImage();
        for (int layer = 0; layer <= 4; layer++) {
            CHECKS.same("depth", layer + 1, x.depth(layer));
        }
        x.tag(0);
        CHECKS.same("depth of a squashed layer", 3, x.depth(x.squash(0, 2)));
    }

    private static void promise33ImageSize() {
        LayeredImages x = withImage();
        int[] due = {2, 4, 4, 5, 6};
        for (int layer = 0; layer <= 4; layer++) {
            CHECKS.same("imageSize " + layer, due[layer], x.imageSize(layer));
        }
        x.reset(1, 1);
        CHECKS.same("of an empty root layer", 0, x.imageSize(x.start(1)));
    }

    private static void promise34Digest() {
        LayeredImages x = withImage();
        CHECKS.same("path 4 alone", 31 + 404 + 164, x.digest(4));
        CHECKS.same("path 0 and path 11", 31 * (31 + 5) + 1111 + 9999, x.digest(0));
        CHECKS.same("path 4 and path 11", 31 * (31 + 404 + 5) + 1111 + 9999, x.digest(1));
        CHECKS.same("SET shows the same", 31 * (31 + 404 + 5) + 1111 + 9999, x.digest(2));
        CHECKS.same("RUN at path 4", 31 * (31 + 404 + 164) + 1111 + 9999, x.digest(3));
        x.reset(1, 1);
        CHECKS.same("of nothing", 1, x.digest(x.start(1)));
        x.setBase(1, 0, 0);
        CHECKS.same("path 0, content 0", 31, x.digest(x.start(1)));
    }

    private static void promise34DigestWithRemainder() {
        LayeredImages x = new LayeredImages();
        long due = 1;
        for (int path = 0; path < 12; path++) {
            x.setBase(0, path, 9999 - path);
            due = (31 * due + 101 * path + 9999 - path) % 1000003;
        }
        CHECKS.same("of twelve contents", due, x.digest(x.start(0)));
    }

    private static void promise34DigestAtEachPathAlone() {
        for (int path = 0; path < 12; path++) {
            LayeredImages x = new LayeredImages();
            x.setBase(0, path, 0);
            CHECKS.same("content 0 at path " + path, 31 + 101 * path, x.digest(x.start(0)));
            x.setBase(0, path, 9999);
            CHECKS.same("9999 at path " + path, 31 + 101 * path + 9999, x.digest(x.start(0)));
        }
    }

    /** 31 * (31 * (31 + 969) + 101 + 900) + 202 + 7770 is just 1000003. */
    private static void promise34DigestAtTheEdgesOfTheRemainder() {
        LayeredImages x = new LayeredImages();
        x.setBase(0, 0, 969);
        x.setBase(0, 1, 900);
        int[] contents = {7769, 7770, 7771};
        int[] due = {1000002, 0, 1};
        for (int i = 0; i < due.length; i++) {
            x.setBase(0, 2, contents[i]);
            int root = x.start(0);
            CHECKS.same("the remainder", due[i], x.digest(root));
            CHECKS.same("of a clean build", due[i], x.cleanDigest(0));
        }
        x.setBase(0, 2, 7770);
        x.setBase(0, 3, 0);
        CHECKS.same("31 times 0, and the next path", 303, x.digest(x.start(0)));
        x.setBase(0, 2, 7769);
        CHECKS.same("31 times 1000002, and the next path", 303 - 31, x.digest(x.start(0)));
    }

    /** RUN makes contents up to 10006, which is 31 * 322 + 23 + 1. */
    private static void promise34DigestOfContentsAbove9999() {
        for (int content = 10000; content <= 10006; content++) {
            LayeredImages x = new LayeredImages();
            x.setBase(0, 2, 322);
            x.addSet(0, 1, content - 31 * 322 - 1);
            x.addRun(0, 2, 1);
            int top = x.build(0);
            CHECKS.same("the content", content, x.shownAt(top, 2));
            CHECKS.same("its digest", 31 + 202 + content, x.digest(top));
            CHECKS.same("of a clean build", 31 + 202 + content, x.cleanDigest(0));
        }
    }

    private static void promises26To34OfAnObjectWithoutLayers() {
        LayeredImages x = new LayeredImages();
        CHECKS.same("no layers", 0, x.layers());
        CHECKS.outOfBounds("parentOf(0)", () -> x.parentOf(0));
        CHECKS.outOfBounds("sizeOf(0)", () -> x.sizeOf(0));
        CHECKS.outOfBounds("heldAt(0, 0)", () -> x.heldAt(0, 0));
        CHECKS.outOfBounds("shownAt(0, 0)", () -> x.shownAt(0, 0));
        CHECKS.outOfBounds("variable(0, 0)", () -> x.variable(0, 0));
        CHECKS.outOfBounds("depth(0)", () -> x.depth(0));
        CHECKS.outOfBounds("imageSize(0)", () -> x.imageSize(0));
        CHECKS.outOfBounds("digest(0)", () -> x.digest(0));
        CHECKS.same("still no layers", 0, x.layers());
    }

    private static void promise27ParentOfLayersOfSquashAndRebase() {
        LayeredImages x = withImage();
        x.tag(0);
        CHECKS.same("of a squashed layer", 1, x.parentOf(x.squash(0, 2)));
        CHECKS.same("of a moved layer", 7, x.parentOf(x.rebase(0, 2)));
        CHECKS.same("of the first moved layer", 6, x.parentOf(7));
        CHECKS.same("of the new root layer", NONE, x.parentOf(6));
    }

    /** Ten moves on a full base, the most that an image can hold: 12 + 10 * 2. */
    private static void promise28And33TheGreatestSizes() {
        LayeredImages x = new LayeredImages();
        for (int path = 0; path < 12; path++) {
            x.setBase(0, path, path);
        }
        for (int i = 0; i < 10; i++) {
            x.addMove(0, i, i + 1);
        }
        x.build(0);
        for (int layer = 0; layer <= 10; layer++) {
            CHECKS.same("sizeOf " + layer, layer == 0 ? 12 : 2, x.sizeOf(layer));
            CHECKS.same("imageSize " + layer, 12 + 2 * layer, x.imageSize(layer));
        }
        x.tag(0);
        int squashed = x.squash(0, 1);
        CHECKS.same("ten paths hidden, one with the content of path 0", 11, x.sizeOf(squashed));
        CHECKS.same("its image", 23, x.imageSize(squashed));
        x.rebase(0, 1);
        CHECKS.same("on an empty base the content alone", 1, x.imageSize(x.tagged(0)));
    }

    private static void promise29And30AtEachPath() {
        LayeredImages x = new LayeredImages();
        x.setFile(0, 0);
        for (int path = 0; path < 12; path++) {
            x.reset(0, 0);
            x.addCopy(0, 0, path);
            x.addRemove(0, path);
            int removed = x.build(0);
            int copied = x.parentOf(removed);
            for (int asked = 0; asked < 12; asked++) {
                boolean told = asked == path;
                CHECKS.same("held by COPY", told ? 0 : NONE, x.heldAt(copied, asked));
                CHECKS.same("shown by COPY", told ? 0 : NONE, x.shownAt(copied, asked));
                CHECKS.same("held by REMOVE", told ? WHITEOUT : NONE, x.heldAt(removed, asked));
            }
            CHECKS.same("shown by REMOVE", NONE, x.shownAt(removed, path));
        }
    }

    private static void promise31EachVariableOfEachLayer() {
        LayeredImages x = new LayeredImages();
        for (int variable = 0; variable < 4; variable++) {
            x.reset(0, 0);
            x.addSet(0, variable, 999);
            x.addSet(0, variable, 0);
            int again = x.build(0);
            int set = x.parentOf(again);
            for (int asked = 0; asked < 4; asked++) {
                CHECKS.same("of SET 999", asked == variable ? 999 : 0, x.variable(set, asked));
                CHECKS.same("of SET 0", 0, x.variable(again, asked));
                CHECKS.same("of the root layer", 0, x.variable(0, asked));
            }
        }
    }

    private static void promise32DepthFrom1To11() {
        LayeredImages x = new LayeredImages();
        for (int i = 0; i < 10; i++) {
            x.addRun(0, 0, 0);
        }
        x.build(0);
        for (int layer = 0; layer <= 10; layer++) {
            CHECKS.same("depth", layer + 1, x.depth(layer));
        }
        x.tag(0);
        CHECKS.same("of a squashed layer on the root layer", 2, x.depth(x.squash(0, 1)));
        CHECKS.same("of a moved layer", 2, x.depth(x.rebase(0, 2)));
    }

    private static void promises27To34OfNoLayer() {
        LayeredImages x = withImage();
        int[] wrong = {-1, -2, 5, 400, 419, 420, 421, Integer.MAX_VALUE, Integer.MIN_VALUE};
        for (int layer : wrong) {
            CHECKS.outOfBounds("parentOf " + layer, () -> x.parentOf(layer));
            CHECKS.outOfBounds("sizeOf " + layer, () -> x.sizeOf(layer));
            CHECKS.outOfBounds("heldAt " + layer, () -> x.heldAt(layer, 0));
            CHECKS.outOfBounds("shownAt " + layer, () -> x.shownAt(layer, 0));
            CHECKS.outOfBounds("variable " + layer, () -> x.variable(layer, 0));
            CHECKS.outOfBounds("depth " + layer, () -> x.depth(layer));
            CHECKS.outOfBounds("imageSize " + layer, () -> x.imageSize(layer));
            CHECKS.outOfBounds("digest " + layer, () -> x.digest(layer));
        }
    }
}
