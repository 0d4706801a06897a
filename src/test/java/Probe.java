/**
 * Asks a house for all that it tells, and then calls what answers by what was there before: it is another house then.
 * It takes some 200 to 360 calls, as much as stands in the house.
 */
final class Probe {
    private static final int MOST_FRAMES = 3;
    private static final int[][] POINTS = {{0, 0}, {1, 0}};

    private final CelHouse house;
    private final StringBuilder text = new StringBuilder();

    private interface Asked {
        long answer();
    }

    private Probe(CelHouse probed) {
        house = probed;
    }

    /** What a house answers to questions, and to calls then. */
    static String of(CelHouse house) {
        Probe probe = new Probe(house);
        probe.askScenes();
        probe.askDrawings();
        probe.askHandsAndFilm();
        probe.changeAll();
        return probe.text.toString();
    }

    /** What a house answers to calls that are no questions. */
    static String byCallsAlone(CelHouse house) {
        Probe probe = new Probe(house);
        probe.changeAll();
        return probe.text.toString();
    }

    /** The first answer that is not as that of an untouched house, and that one; an empty text if all are alike. */
    static String difference(String answers, String untouched) {
        String[] got = answers.split("\n");
        String[] due = untouched.split("\n");
        for (int i = 0; i < Math.min(got.length, due.length); i++) {
            if (!got[i].equals(due[i])) {
                return got[i] + ", untouched " + due[i];
            }
        }
        return got.length == due.length ? "" : got.length + " answers, untouched " + due.length;
    }

    /** Whether there was an answer, and no exception. */
    private boolean tell(String name, Asked asked) {
        String[] answer = new String[1];
        String thrown = Check.thrownBy(() -> answer[0] = String.valueOf(asked.answer()));
        text.append(name).append(' ').append(answer[0] == null ? thrown : answer[0]).append('\n');
        return answer[0] != null;
    }

    private void askDrawings() {
        boolean isThere = true;
        for (int drawing = 0; isThere; drawing++) {
            int asked = drawing;
            isThere = tell("strokes of " + drawing, () -> house.of(asked, 0));
            for (int what = 1; what < 6 && isThere; what++) {
                int told = what;
                tell("of " + drawing + ", " + what, () -> house.of(asked, told));
            }
        }
    }

    private void askScenes() {
        boolean isThere = true;
        for (int scene = 0; isThere; scene++) {
            int asked = scene;
            isThere = askFrame(scene, 0);
            for (int frame = 1; frame < MOST_FRAMES && isThere && askFrame(scene, frame); frame++) {
                continue;
            }
            tell("stale " + scene, () -> house.stale(asked));
        }
    }

    private boolean askFrame(int scene, int frame) {
        String place = " " + scene + ", " + frame;
        boolean isThere = true;
        for (int[] point : POINTS) {
            isThere = isThere && tell("shot" + place, () -> house.shot(scene, frame, point[0], point[1]))
                    && tell("seen" + place, () -> house.seen(scene, frame, point[0], point[1]));
        }
        for (int level = 0; level < 4 && isThere; level++) {
            int asked = level;
            tell("has" + place, () -> house.has(scene, asked, frame));
        }
        if (isThere) {
            tell("moved in x" + place, () -> house.moved(scene, 0, frame, true));
            tell("moved in y" + place, () -> house.moved(scene, 3, frame, false));
            tell("faults" + place, () -> house.faults(scene, frame));
        }
        return isThere;
    }

    private void askHandsAndFilm() {
        for (int i = 0; i < 4; i++) {
            int at = i;
            tell("hours " + i, () -> house.hours(at));
            tell("film " + i, () -> house.film(at));
        }
    }

    private void changeAll() {
        changePen();
        boolean isThere = true;
        for (int scene = 0; scene < 6 && isThere; scene++) {
            int told = scene;
            isThere = tell("shoot " + scene, () -> house.shoot(told));
            for (int frame = 0; frame < MOST_FRAMES && isThere; frame++) {
                changeFrame(scene, frame);
            }
            for (int level = 0; level < 4 && isThere; level++) {
                int changed = level;
                tell("speaks " + scene + ", " + level, () -> house.speaks(told, changed) ? 1 : 0);
            }
        }
        changeDrawings();
        changeTheRest();
    }

    /** The pen stands at (9, 7) in the houses that are probed: a dot is a dot, unless it was moved. */
    private void changePen() {
        tell("a stroke of the key 0", () -> house.stroke(0, 7, 9, 7, 1));
        tell("its lines", () -> house.of(0, 4));
    }

    private void changeFrame(int scene, int frame) {
        String place = " " + scene + ", " + frame;
        boolean isThere = tell("voice" + place, () -> house.voice(scene, frame, 6));
        for (int level = 0; level < 4 && isThere; level++) {
            int changed = level;
            tell("expose" + place, () -> house.expose(scene, changed, frame, 123));
        }
    }

    private void changeDrawings() {
        for (int i = 0; i < 4; i++) {
            int drawing = i;
            tell("erase of " + i, () -> house.erase(drawing, 3) ? 1 : 0);
            tell("paint of " + i, () -> house.paint(drawing, 6));
            tell("gaps of " + i, () -> house.gaps(drawing) ? 1 : 0);
            tell("approve " + i, () -> house.approve(drawing, true));
        }
    }

    private void changeTheRest() {
        for (int i = 0; i < 32; i++) {
            int at = i;
            tell("colour " + i, () -> house.colour(at / 8, at % 8, 50));
        }
        for (int i = 0; i < 8; i++) {
            int at = i;
            tell("mouth " + i, () -> house.mouth(at, CelHouse.NONE));
        }
        for (int i = 0; i < 6; i++) {
            int at = i;
            tell("move " + i, () -> house.move(at, 22, 1, 1));
        }
        tell("another peg", () -> house.peg(CelHouse.NONE));
        tell("another hand", () -> house.hand(1));
        tell("another scene", () -> house.scene(1, 0));
        tell("another key", house::key);
        tell("a splice", () -> house.splice(0));
        tell("a cut", house::cut);
    }
}
