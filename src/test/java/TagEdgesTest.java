/** Promises 20 to 25 at their edges: tags, places, root layers, WHITEOUT at each path, prune. */
final class TagEdgesTest {
    private static final Checks CHECKS = new Checks("TagEdgesTest");
    private static final int NONE = LayeredImages.NONE;
    private static final int WHITEOUT = LayeredImages.WHITEOUT;

    public static void main(String[] args) {
        promises20To22EachTagHasItsOwnLayer();
        promise20TheSameLayerAgain();
        promise20BehindASquash();
        promise20ALayerThatIsGone();
        promise21ALayerStaysUntilItIsPruned();
        promise23LeastAndGreatestPlaceOfTheDeepestImage();
        promise23TheImageOfTwoLayersAndOfOne();
        promise23ThePlacesOfTheSquashedImage();
        promise23AnEmptyDifference();
        promise23HoldsWhereSomethingElseIsShown();
        promise23OtherTagsStay();
        promise23ARebasedImage();
        promise24TheDeepestImage();
        promise24TheSameBaseMakesNewLayers();
        promise24ARootLayerAlone();
        promise24RootLayersWithLessOrMoreAreNotTaken();
        promise24WhiteoutAtEachPath();
        promise24ContentsAreHeldThoughTheParentShowsThem();
        promise24ContentsAreThoseOfTheOldLayers();
        promise24OtherTagsAndOldLayersStay();
        promises23And24BehindGoneLayers();
        promise25NothingAndAll();
        promise25EachOfFiveTags();
        promise25TwoTagsForOneLayer();
        promise25BehindAFailedBuild();
        promise25AnImageThatWasSquashedOrMoved();
        CHECKS.end();
    }

    private static LayeredImages withRuns(int count) {
        LayeredImages x = new LayeredImages();
        for (int i = 0; i < count; i++) {
            x.addRun(0, i, 0);
        }
        x.build(0);
        x.tag(0);
        return x;
    }

    private static void promises20To22EachTagHasItsOwnLayer() {
        LayeredImages x = new LayeredImages();
        for (int tag = 0; tag < 5; tag++) {
            CHECKS.same("none at first", NONE, x.tagged(tag));
            CHECKS.same("none to untag", NONE, x.untag(tag));
            x.build(0);
            CHECKS.same("none before", NONE, x.tag(tag));
            x.addRun(0, tag, 0);
        }
        for (int tag = 0; tag < 5; tag++) {
            CHECKS.same("each stands for its own", tag, x.tagged(tag));
        }
        for (int tag = 0; tag < 5; tag++) {
            CHECKS.same("untag", tag, x.untag(tag));
            CHECKS.same("none then", NONE, x.tagged(tag));
            CHECKS.same("untag again", NONE, x.untag(tag));
            CHECKS.same("the next stays", tag < 4 ? tag + 1 : NONE, x.tagged(Math.min(tag + 1, 4)));
        }
    }

    private static void promise20TheSameLayerAgain() {
        LayeredImages x = withRuns(1);
        CHECKS.same("it stood for the same layer", 1, x.tag(0));
        CHECKS.same("and does", 1, x.tagged(0));
        x.start(1);
        CHECKS.same("a root layer", 1, x.tag(0));
        CHECKS.same("number 0 is no NONE", 0, x.tagged(0));
        CHECKS.same("nor before", 0, x.tag(0));
        CHECKS.same("nor for untag", 0, x.untag(0));
    }

    private static void promise20BehindASquash() {
        LayeredImages x = withRuns(2);
        CHECKS.same("squash", 3, x.squash(0, 1));
        CHECKS.same("the tag stood for the squashed one", 3, x.tag(0));
        CHECKS.same("it stands for that of the build again", 2, x.tagged(0));
    }

    private static void promise20ALayerThatIsGone() {
        LayeredImages x = withRuns(1);
        x.untag(0);
        CHECKS.same("prune", 2, x.prune());
        for (int tag = 0; tag < 5; tag++) {
            int asked = tag;
            CHECKS.badState("tag of a layer that is gone", () -> x.tag(asked));
            CHECKS.same("the tag stands for none", NONE, x.tagged(tag));
        }
    }

    private static void promise21ALayerStaysUntilItIsPruned() {
        LayeredImages x = withRuns(1);
        CHECKS.same("untag", 1, x.untag(0));
        CHECKS.same("it can be asked about", 2, x.depth(1));
        CHECKS.same("it is found", 1, x.build(0));
        CHECKS.same("it can be tagged", NONE, x.tag(4));
        x.untag(4);
        CHECKS.same("prune", 2, x.prune());
        CHECKS.outOfBounds("it is gone", () -> x.depth(1));
    }

    private static void promise23LeastAndGreatestPlaceOfTheDeepestImage() {
        int[] places = {1, 2, 9, 10};
        for (int place : places) {
            LayeredImages x = withRuns(10);
            CHECKS.outOfBounds("place 0 is the root layer", () -> x.squash(0, 0));
            CHECKS.outOfBounds("place 11 of 11 layers", () -> x.squash(0, 11));
            CHECKS.same("squash", 11, x.squash(0, place));
            CHECKS.same("the layer ahead of the place", place - 1, x.parentOf(11));
            CHECKS.same("its depth", place + 1, x.depth(11));
            CHECKS.same("the paths of all from there on", 10 - (place - 1), x.sizeOf(11));
            CHECKS.same("it shows the same", x.digest(10), x.digest(11));
        }
    }

    private static void promise23TheImageOfTwoLayersAndOfOne() {
        LayeredImages x = withRuns(1);
        CHECKS.outOfBounds("place 2 of two layers", () -> x.squash(0, 2));
        CHECKS.same("place 1 of two layers", 2, x.squash(0, 1));
        CHECKS.same("on the root layer", 0, x.parentOf(2));
        LayeredImages y = withRuns(0);
        CHECKS.outOfBounds("place 0 of one layer", () -> y.squash(0, 0));
        CHECKS.outOfBounds("place 1 of one layer", () -> y.squash(0, 1));
        CHECKS.same("nothing was made", 1, y.layers());
        CHECKS.same("the tag stays", 0, y.tagged(0));
    }

    private static void promise23ThePlacesOfTheSquashedImage() {
        LayeredImages x = withRuns(10);
        x.squash(0, 4);
        CHECKS.outOfBounds("place 5 is no more", () -> x.squash(0, 5));
        CHECKS.same("place 4 is the last", 12, x.squash(0, 4));
        CHECKS.same("its parent", 3, x.parentOf(12));
        CHECKS.same("place 1", 13, x.squash(0, 1));
        CHECKS.outOfBounds("place 2 is no more", () -> x.squash(0, 2));
        CHECKS.same("it shows the same", x.digest(10), x.digest(13));
    }

    private static void promise23AnEmptyDifference() {
        LayeredImages x = new LayeredImages();
        x.setBase(0, 0, 0);
        x.setFile(0, 0);
        x.addCopy(0, 0, 0);
        x.addMove(0, 0, 11);
        x.addMove(0, 11, 0);
        x.addSet(0, 3, 999);
        x.build(0);
        x.tag(0);
        int squashed = x.squash(0, 1);
        CHECKS.same("all is shown as in the parent", 0, x.sizeOf(squashed));
        for (int path = 0; path < 12; path++) {
            CHECKS.same("nothing is held", NONE, x.heldAt(squashed, path));
        }
        CHECKS.same("the values are the same", 999, x.variable(squashed, 3));
        CHECKS.same("the content 0 is shown", 0, x.shownAt(squashed, 0));
    }

    /** At each path in turn: a content that goes, comes, changes, stays, or is none throughout. */
    private static void promise23HoldsWhereSomethingElseIsShown() {
        for (int first = 0; first < 12; first++) {
            int second = (first + 1) % 12;
            int third = (first + 2) % 12;
            int fourth = (first + 3) % 12;
            LayeredImages x = new LayeredImages();
            x.setBase(0, first, 0);
            x.setBase(0, third, 30);
            x.setBase(0, fourth, 40);
            x.setFile(0, 0);
            x.setFile(1, 40);
            x.addRemove(0, first);
            x.addCopy(0, 0, second);
            x.addCopy(0, 0, third);
            x.addCopy(0, 1, fourth);
            x.build(0);
            x.tag(0);
            int squashed = x.squash(0, 1);
            CHECKS.same("content 0 that goes", WHITEOUT, x.heldAt(squashed, first));
            CHECKS.same("content 0 that comes", 0, x.heldAt(squashed, second));
            CHECKS.same("a content that changes to 0", 0, x.heldAt(squashed, third));
            CHECKS.same("a content that stays", NONE, x.heldAt(squashed, fourth));
            CHECKS.same("nothing at the others", 3, x.sizeOf(squashed));
            CHECKS.same("it shows the same", x.digest(4), x.digest(squashed));
        }
    }

    private static void promise23OtherTagsStay() {
        LayeredImages x = withRuns(3);
        for (int tag = 1; tag < 5; tag++) {
            x.tag(tag);
        }
        CHECKS.same("squash of the highest tag", 4, x.squash(4, 2));
        CHECKS.same("it stands for the new layer", 4, x.tagged(4));
        for (int tag = 0; tag < 4; tag++) {
            CHECKS.same("the others stay", 3, x.tagged(tag));
        }
        CHECKS.same("the old layers stay", 0, x.prune());
    }

    private static void promise23ARebasedImage() {
        LayeredImages x = withRuns(2);
        x.setBase(1, 5, 5);
        CHECKS.same("rebase", 5, x.rebase(0, 1));
        CHECKS.outOfBounds("place 3", () -> x.squash(0, 3));
        CHECKS.same("squash", 6, x.squash(0, 1));
        CHECKS.same("on the new root layer", 3, x.parentOf(6));
        CHECKS.same("without what that shows", NONE, x.heldAt(6, 5));
        CHECKS.same("which is shown", 5, x.shownAt(6, 5));
        CHECKS.same("back on base 0", 7, x.rebase(0, 0));
        CHECKS.same("as it was built there", x.digest(2), x.digest(7));
    }

    private static void promise24TheDeepestImage() {
        LayeredImages x = withRuns(10);
        x.setBase(2, 11, 9);
        CHECKS.same("a root layer and ten more", 21, x.rebase(0, 2));
        CHECKS.same("made", 22, x.layers());
        CHECKS.same("as deep as before", 11, x.depth(21));
        for (int place = 1; place <= 10; place++) {
            CHECKS.same("each on the one before", 10 + place, x.parentOf(11 + place));
            CHECKS.same("each holds the same", 1, x.heldAt(11 + place, place - 1));
            CHECKS.same("and nothing else", 1, x.sizeOf(11 + place));
        }
        CHECKS.same("back on a root layer that is there", 31, x.rebase(0, 0));
        CHECKS.same("ten more", 32, x.layers());
        CHECKS.same("as it was built there", x.digest(10), x.digest(31));
    }

    private static void promise24TheSameBaseMakesNewLayers() {
        LayeredImages x = withRuns(2);
        CHECKS.same("rebase on its own base", 4, x.rebase(0, 0));
        CHECKS.same("on the same root layer", 0, x.parentOf(3));
        CHECKS.same("it shows the same", x.digest(2), x.digest(4));
        CHECKS.same("the old one is pruned", 2, x.prune());
    }

    private static void promise24ARootLayerAlone() {
        LayeredImages x = withRuns(0);
        CHECKS.same("on its own base", 0, x.rebase(0, 0));
        CHECKS.same("nothing is made", 1, x.layers());
        x.setBase(0, 0, 1);
        CHECKS.same("on its own base, which shows more now", 1, x.rebase(0, 0));
        CHECKS.same("a root layer", NONE, x.parentOf(1));
        CHECKS.same("the tag stands for it", 1, x.tagged(0));
        CHECKS.same("on an empty base", 0, x.rebase(0, 2));
        CHECKS.same("the tag stands for root layer 0", 0, x.tagged(0));
        CHECKS.same("nothing more is made", 2, x.layers());
    }

    private static void promise24RootLayersWithLessOrMoreAreNotTaken() {
        LayeredImages x = withRuns(1);
        x.setBase(1, 0, 0);
        CHECKS.same("content 0 is more than nothing", 3, x.rebase(0, 1));
        CHECKS.same("a new root layer", 2, x.parentOf(3));
        x.setBase(1, 11, 0);
        CHECKS.same("one path more", 5, x.rebase(0, 1));
        CHECKS.same("a new root layer", 4, x.parentOf(5));
        x.setBase(1, 0, NONE);
        CHECKS.same("one path less", 7, x.rebase(0, 1));
        CHECKS.same("a new root layer", 6, x.parentOf(7));
        x.setBase(1, 11, 1);
        CHECKS.same("another content", 9, x.rebase(0, 1));
        CHECKS.same("a new root layer", 8, x.parentOf(9));
        x.setBase(1, 11, 0);
        CHECKS.same("as before", 10, x.rebase(0, 1));
        CHECKS.same("the root layer of before", 6, x.parentOf(10));
    }

    private static void promise24WhiteoutAtEachPath() {
        for (int path = 0; path < 12; path++) {
            LayeredImages x = new LayeredImages();
            for (int filled = 0; filled < 12; filled++) {
                x.setBase(0, filled, 0);
            }
            x.setBase(1, path, 0);
            x.addRemove(0, path);
            x.addRemove(0, (path + 1) % 12);
            x.build(0);
            x.tag(0);
            CHECKS.same("rebase", 5, x.rebase(0, 1));
            CHECKS.same("its parent shows content 0", WHITEOUT, x.heldAt(4, path));
            CHECKS.same("its parent shows none", NONE, x.heldAt(5, (path + 1) % 12));
            CHECKS.same("a layer that holds nothing", 0, x.sizeOf(5));
            CHECKS.same("nothing is shown", 1, x.digest(5));
        }
    }

    private static void promise24ContentsAreHeldThoughTheParentShowsThem() {
        LayeredImages x = new LayeredImages();
        x.setFile(0, 0);
        x.addCopy(0, 0, 0);
        x.addCopy(0, 0, 11);
        x.build(0);
        x.tag(0);
        x.setBase(1, 0, 0);
        x.setBase(1, 11, 0);
        CHECKS.same("rebase", 5, x.rebase(0, 1));
        CHECKS.same("held as before", 0, x.heldAt(4, 0));
        CHECKS.same("held as before", 0, x.heldAt(5, 11));
        CHECKS.same("one path", 1, x.sizeOf(4));
        CHECKS.same("one path", 1, x.sizeOf(5));
    }

    /** COPY, RUN and MOVE would make other contents now, on the base on which the image is put. */
    private static void promise24ContentsAreThoseOfTheOldLayers() {
        LayeredImages x = new LayeredImages();
        x.setFile(0, 3);
        x.setBase(0, 1, 10);
        x.setBase(0, 2, 20);
        x.setBase(1, 1, 11);
        x.setBase(1, 2, 21);
        x.addCopy(0, 0, 0);
        x.addRun(0, 1, 0);
        x.addMove(0, 2, 4);
        x.build(0);
        x.tag(0);
        x.setFile(0, NONE);
        CHECKS.same("rebase", 7, x.rebase(0, 1));
        CHECKS.same("COPY", 3, x.heldAt(5, 0));
        CHECKS.same("RUN", 311, x.heldAt(6, 1));
        CHECKS.same("MOVE, to", 20, x.heldAt(7, 4));
        CHECKS.same("MOVE, from", WHITEOUT, x.heldAt(7, 2));
        CHECKS.same("what is shown", x.digest(3), x.digest(7));
    }

    private static void promise24OtherTagsAndOldLayersStay() {
        LayeredImages x = withRuns(1);
        for (int tag = 1; tag < 5; tag++) {
            x.tag(tag);
        }
        x.setBase(2, 0, 5);
        CHECKS.same("rebase of the highest tag", 3, x.rebase(4, 2));
        CHECKS.same("it stands for the new layer", 3, x.tagged(4));
        for (int tag = 0; tag < 4; tag++) {
            CHECKS.same("the others stay", 1, x.tagged(tag));
        }
        CHECKS.same("the old layer stays", 0, x.parentOf(1));
        CHECKS.same("nothing to prune", 0, x.prune());
    }

    private static void promises23And24BehindGoneLayers() {
        LayeredImages x = withRuns(2);
        x.untag(0);
        CHECKS.same("all are gone", 3, x.prune());
        CHECKS.same("built again", 5, x.build(0));
        CHECKS.same("tagged again", NONE, x.tag(0));
        CHECKS.same("squash", 6, x.squash(0, 1));
        CHECKS.same("on the root layer that is there", 3, x.parentOf(6));
        CHECKS.same("rebase", 7, x.rebase(0, 0));
        CHECKS.same("on the root layer that is there", 3, x.parentOf(7));
        CHECKS.same("it shows the same", x.digest(5), x.digest(7));
    }

    private static void promise25NothingAndAll() {
        LayeredImages x = new LayeredImages();
        CHECKS.same("no layers", 0, x.prune());
        x.start(0);
        CHECKS.same("one layer, no tag", 1, x.prune());
        CHECKS.same("once more", 0, x.prune());
        LayeredImages y = withRuns(10);
        CHECKS.same("all are in the image", 0, y.prune());
        y.untag(0);
        CHECKS.same("none is", 11, y.prune());
        for (int layer = 0; layer <= 10; layer++) {
            int gone = layer;
            CHECKS.outOfBounds("all are gone", () -> y.depth(gone));
        }
    }

    /** Five images that share a root layer; the sixth has no tag. */
    private static void promise25EachOfFiveTags() {
        LayeredImages x = new LayeredImages();
        for (int tag = 0; tag < 5; tag++) {
            x.addRun(0, tag, 0);
            x.build(0);
            x.tag(tag);
            x.reset(0, 0);
        }
        x.addRun(0, 5, 0);
        x.build(0);
        CHECKS.same("the layer without a tag", 1, x.prune());
        CHECKS.outOfBounds("it is gone", () -> x.depth(6));
        for (int tag = 0; tag < 5; tag++) {
            CHECKS.same("those with a tag stay", 2, x.depth(tag + 1));
            x.untag(tag);
            CHECKS.same("the layer, and in the end the root layer", tag < 4 ? 1 : 2, x.prune());
        }
    }

    private static void promise25TwoTagsForOneLayer() {
        LayeredImages x = withRuns(2);
        x.tag(4);
        x.untag(0);
        CHECKS.same("the other tag stands for it", 0, x.prune());
        x.untag(4);
        CHECKS.same("none does", 3, x.prune());
    }

    private static void promise25BehindAFailedBuild() {
        LayeredImages x = withRuns(1);
        x.addRun(0, 1, 0);
        x.addRemove(0, 11);
        CHECKS.same("it fails", NONE, x.build(0));
        CHECKS.same("its layer is pruned", 1, x.prune());
        CHECKS.outOfBounds("it is gone", () -> x.depth(2));
        CHECKS.same("the tagged one stays", 2, x.depth(1));
        CHECKS.same("built stays NONE", NONE, x.built());
    }

    private static void promise25AnImageThatWasSquashedOrMoved() {
        LayeredImages x = withRuns(4);
        x.squash(0, 3);
        CHECKS.same("the two that were squashed", 2, x.prune());
        x.setBase(1, 0, 5);
        CHECKS.same("rebase", 9, x.rebase(0, 1));
        CHECKS.same("the image on the old base", 4, x.prune());
        CHECKS.same("the new one stays", 4, x.depth(9));
        CHECKS.same("the root layer for base 1 is found", 6, x.parentOf(7));
        x.reset(1, 1);
        CHECKS.same("by a build too", 6, x.start(1));
        CHECKS.same("that for base 0 is gone", 10, x.start(2));
    }
}
