/** That the scenes are what the tests that start from them take them for. */
final class SceneTest {
    public static void main(String[] args) {
        int[] saved = {0, 1, 5, 6, 6, 0};
        int[] lengths = {0, 1, 79, 80, 80, 7};
        int[] errors = {0, TouchTracker.NONE, TouchTracker.NONE, TouchTracker.NONE, 80, 6};
        for (Scene scene : Scene.values()) {
            TouchTracker x = scene.make();
            int number = scene.ordinal();
            Check.same(scene + ": savedStates", x.savedStates(), saved[number]);
            Check.same(scene + ": textLength", x.textLength(), lengths[number]);
            Check.same(scene + ": errorPosition", x.errorPosition(), errors[number]);
            Check.same(scene + " twice", Check.look(scene.make()), Check.look(x));
        }
        TouchTracker full = Scene.FULL.make();
        for (int track = 0; track < 6; track++) {
            Check.yes("track " + track + " is down", full.isDown(track));
        }
        Check.yes("a track has missed a frame", full.track(2, 3) > 0);
        Check.yes("a track has an age", full.track(0, 2) > 0);
        eachSavedStateDiffers();
        Check.end();
    }

    private static void eachSavedStateDiffers() {
        String after = Check.lookAtState(Scene.FULL.make());
        for (int depth = 1; depth <= 6; depth++) {
            TouchTracker x = Scene.FULL.make();
            for (int i = 0; i < depth; i++) {
                x.undo();
            }
            String seen = Check.lookAtState(x);
            Check.yes("the state " + depth + " differs from the next one", !seen.equals(after));
            after = seen;
        }
    }
}
