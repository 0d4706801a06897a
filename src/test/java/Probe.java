/** Asks a house for all that it tells, and then calls what tells what was there before: it is another house then. */
final class Probe {
    private static final int[][] POINTS = {{0, 0}, {1, 0}, {9, 7}};

    private final CelHouse house;
    private final StringBuilder text = new StringBuilder();
    private int drawings, scenes;
    private final int[] frames = new int[6];

    private interface Asked {
        long answer();
    }

    private Probe(CelHouse probed) {
        house = probed;
    }

    /** What a house answers; it is told of some 160 to 320 calls, as much as stands in it. */
    static String of(CelHouse house) {
        Probe probe = new Probe(house);
        probe.askDrawings();
        probe.askScenes();
        probe.askHandsAndFilm();
        probe.changeSheets();
        probe.changeTheRest();
        return probe.text.toString();
    }

    /** Whether there was an answer, and no exception. */
    private boolean tell(String name, Asked asked) {
        String[] answer = new String[1];
        String thrown = Check.thrownBy(() -> answer[0] = String.valueOf(asked.answer()));
        text.append(name).append(' ').append(answer[0] == null ? thrown : answer[0]).append('\n');
        return answer[0] != null;
    }

    private void askDrawings() {
        while (tell("strokes of " + drawings, () -> house.of(drawings, 0))) {
            for (int what = 1; what < 6; what++) {
                int asked = what;
                tell("of " + drawings + ", " + what, () -> house.of(drawings, asked));
            }
            drawings++;
        }
    }

    private void askScenes() {
        while (scenes < 6 && tell("has " + scenes + ", frame 0", () -> house.has(scenes, 0, 0))) {
            while (frames[scenes] < 3 && tell("faults " + scenes, () -> house.faults(scenes, frames[scenes]))) {
                askFrame(scenes, frames[scenes]);
                frames[scenes]++;
            }
            tell("stale " + scenes, () -> house.stale(scenes));
            scenes++;
        }
    }

    private void askFrame(int scene, int frame) {
        String place = " " + scene + ", " + frame;
        for (int level = 0; level < 4; level++) {
            int asked = level;
            tell("has" + place, () -> house.has(scene, asked, frame));
        }
        tell("moved in x" + place, () -> house.moved(scene, 0, frame, true));
        tell("moved in y" + place, () -> house.moved(scene, 3, frame, false));
        for (int[] point : POINTS) {
            tell("shot" + place, () -> house.shot(scene, frame, point[0], point[1]));
            tell("seen" + place, () -> house.seen(scene, frame, point[0], point[1]));
        }
    }

    private void askHandsAndFilm() {
        int[] at = new int[2];
        while (at[0] < 5 && tell("hours " + at[0], () -> house.hours(at[0]))) {
            at[0]++;
        }
        while (at[1] < 20 && tell("film " + at[1], () -> house.film(at[1]))) {
            at[1]++;
        }
    }

    private void changeSheets() {
        for (int scene = 0; scene < scenes; scene++) {
            int told = scene;
            for (int level = 0; level < 4; level++) {
                int changed = level;
                for (int frame = 0; frame < frames[scene]; frame++) {
                    int at = frame;
                    tell("expose " + scene + ", " + level + ", " + frame, () -> house.expose(told, changed, at, 123));
                }
                tell("speaks " + scene + ", " + level, () -> house.speaks(told, changed) ? 1 : 0);
            }
            for (int frame = frames[scene] - 1; frame >= 0; frame--) {
                int at = frame;
                tell("voice " + scene + ", " + frame, () -> house.voice(told, at, 6));
            }
        }
    }

    /** The pen stands at (9, 7) in the houses that are probed: a dot is a dot, unless it was moved. */
    private void changeTheRest() {
        for (int i = 0; i < 32; i++) {
            int at = i;
            tell("colour " + i, () -> house.colour(at / 8, at % 8, 50));
        }
        for (int i = 0; i < 8; i++) {
            int at = i;
            tell("mouth " + i, () -> house.mouth(at, CelHouse.NONE));
        }
        for (int i = 0; i < 6; i++) {
            int at = i;
            tell("move " + i, () -> house.move(at, 22, 1, 1));
        }
        tell("a stroke of the key 0", () -> house.stroke(0, 7, 9, 7, 1));
        tell("its lines", () -> house.of(0, 4));
        tell("another peg", () -> house.peg(CelHouse.NONE));
        tell("another hand", () -> house.hand(1));
        tell("another scene", () -> house.scene(1, 0));
        tell("another key", house::key);
        tell("a splice", () -> house.splice(0));
        tell("a cut", house::cut);
    }
}
