/**
 * Objects in the states that decide what is refused. Each answers the same object again when it is
 * asked again, so that two of them can be compared: one on which a call was refused, one without.
 */
enum Examples {
    NEW {
        @Override
        LayeredImages make() {
            return new LayeredImages();
        }
    },

    /** A build is complete; some tags stand for its layer, the others for none. */
    COMPLETE {
        @Override
        LayeredImages make() {
            LayeredImages x = withFilesBasesAndRecipes();
            x.build(0);
            x.tag(0);
            x.tag(2);
            x.build(3);
            x.prune();
            x.build(0);
            return x;
        }
    },

    /** As COMPLETE, but the latest build has failed. */
    FAILED {
        @Override
        LayeredImages make() {
            LayeredImages x = COMPLETE.make();
            x.build(2);
            return x;
        }
    },

    /** As COMPLETE, but a build goes on, with two of its three steps left. */
    GOING_ON {
        @Override
        LayeredImages make() {
            LayeredImages x = COMPLETE.make();
            x.start(0);
            x.step();
            return x;
        }
    },

    /** As COMPLETE, but 400 layers were made, and no root layer is there for the bases 1 and 2. */
    CLOSED {
        @Override
        LayeredImages make() {
            LayeredImages x = COMPLETE.make();
            makeLayers(x, 400);
            makeBasesNew(x);
            return x;
        }
    },

    /** As CLOSED, but a build goes on, with nine of its ten steps left. */
    CLOSED_GOING_ON {
        @Override
        LayeredImages make() {
            LayeredImages x = COMPLETE.make();
            makeLayers(x, 399);
            x.setBase(1, 6, 1);
            x.start(1);
            x.step();
            makeBasesNew(x);
            return x;
        }
    };

    /** The layers that are not gone in COMPLETE, FAILED and GOING_ON; the next one is gone. */
    static final int LAYERS_THAT_STAY = 4;
    static final int LAYERS_THAT_WERE_MADE = 5;

    abstract LayeredImages make();

    /** Recipe 0 is complete after 3 steps, 1 is full, 2 fails, 3 has no instructions. */
    private static LayeredImages withFilesBasesAndRecipes() {
        LayeredImages x = new LayeredImages();
        x.setFile(0, 7);
        x.setFile(7, 9999);
        x.setBase(0, 0, 5);
        x.setBase(0, 3, 9999);
        x.setBase(0, 11, 0);
        x.setBase(1, 1, 21);
        x.addCopy(0, 0, 1);
        x.addSet(0, 2, 77);
        x.addRun(0, 3, 2);
        x.reset(1, 1);
        for (int i = 0; i < 10; i++) {
            x.addRun(1, i, 3);
        }
        x.addRun(2, 1, 0);
        x.addRemove(2, 7);
        x.addSet(2, 0, 1);
        x.reset(3, 2);
        return x;
    }

    /** No root layer holds what the bases 1 and 2 show then, so that one would have to be made. */
    private static void makeBasesNew(LayeredImages x) {
        x.setBase(1, 7, 1);
        x.setBase(2, 7, 2);
    }

    /** Makes layers until so many were made; recipe 1 makes 11 a build, recipe 3 one. */
    static void makeLayers(LayeredImages x, int due) {
        int content = 0;
        while (x.layers() + 11 <= due) {
            x.setBase(1, 5, content);
            x.build(1);
            content++;
        }
        while (x.layers() < due) {
            x.setBase(2, 5, content);
            x.start(3);
            content++;
        }
    }
}
