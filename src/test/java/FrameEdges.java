import java.util.function.BiConsumer;

/** The sentences on frames and shots: those of "Frames, shots", and of the promises 19 and 27 to 31. */
final class FrameEdges {
    private static final int NONE = CelHouse.NONE, CAMERA = 4;

    private interface Asked {
        int at(CelHouse house, int scene, int frame, int x, int y);
    }

    private final Sentences the;
    private final Check check;

    FrameEdges(Sentences sentences, Check complaints) {
        the = sentences;
        check = complaints;
    }

    void tell() {
        ofFrames();
        ofShots();
        ofHanging();
        ofApproved();
        ofShoot();
        ofSeen("Promise 27", "Returns a point of a frame", CelHouse::seen);
        ofSeen("Promise 28", "Returns the same, composed plainly", CelHouse::seenAnew);
        ofShot();
        ofStale();
        ofHangs();
    }

    /** Keys, each with a dot of the name 0 at (8, 6), in the colour name of its number, and a scene 0. */
    private static CelHouse with(int keys, int frames) {
        CelHouse x = new CelHouse();
        for (int i = 0; i < keys; i++) {
            x.key();
            Looks.dot(x, i, 0, 8, 6, i % 8);
        }
        x.scene(frames, 0);
        return x;
    }

    /** What is seen, and seen anew; -7 if that is not the same. */
    private static int seen(CelHouse x, int frame, int column, int row) {
        int seen = x.seen(0, frame, column, row);
        return x.seenAnew(0, frame, column, row) == seen ? seen : -7;
    }

    private void ofFrames() {
        the.in("Frames, shots");
        the.test("at each point that of the highest level that has a point there that is not clear", () -> {
            CelHouse x = with(4, 1);
            for (int level = 0; level < 4; level++) {
                x.expose(0, level, 0, level);
                check.due("the highest of " + (level + 1), seen(x, 0, 8, 6), level + 1);
            }
            x.erase(3, 0);
            check.due("the highest is clear there", seen(x, 0, 8, 6), 3);
            x.expose(0, 2, 0, NONE);
            check.due("the next one is blank", seen(x, 0, 8, 6), 2);
            Looks.paint(x, 3, 0, 0, 7);
            check.due("a paint of the highest", seen(x, 0, 8, 6), 8);
            x.expose(0, 3, 0, NONE);
            x.expose(0, 1, 0, 3);
            x.expose(0, 0, 0, NONE);
            check.due("on a lower level, too", seen(x, 0, 8, 6), 8);
            CelHouse y = with(4, 1);
            for (int level = 0; level < 4; level++) {
                y.expose(0, level, 0, 3 - level);
                y.hang(0, level, NONE, level + 1);
            }
            check.due("depths do not matter", seen(y, 0, 8, 6), 1);
            for (int level = 0; level < 4; level++) {
                y.hang(0, level, NONE, 4 - level);
            }
            check.due("the other way, too", seen(y, 0, 8, 6), 1);
        });
        the.test("being moved", () -> {
            // a dot in each corner, moved until it is at the last point that is seen, and one more
            int[][] corners = {{0, 0}, {15, 0}, {0, 11}, {15, 11}};
            for (int[] corner : corners) {
                CelHouse x = new CelHouse();
                x.key();
                Looks.dot(x, 0, 0, corner[0], corner[1], 4);
                x.scene(1, 0);
                x.expose(0, 2, 0, 0);
                x.peg(NONE);
                x.hang(0, 2, 0, 1);
                int right = corner[0] == 0 ? 15 : -15;
                int down = corner[1] == 0 ? 11 : -11;
                x.move(0, 0, right, 0);
                check.due("at the other side", seen(x, 0, 15 - corner[0], corner[1]), 5);
                x.move(0, 0, 0, down);
                check.due("at the other end", seen(x, 0, corner[0], 11 - corner[1]), 5);
                x.move(0, 0, right, down);
                check.due("at the other corner", seen(x, 0, 15 - corner[0], 11 - corner[1]), 5);
                x.move(0, 0, -right / 15, 0);
                check.due("one beyond its own side", x.faults(0, 0), 4);
                x.move(0, 0, 0, -down / 11);
                check.due("one beyond its own end", x.faults(0, 0), 4);
                x.move(0, 0, right + right / 15, 0);
                check.due("one beyond the other side", x.faults(0, 0), 4);
                for (int row = 0; row < 12; row++) {
                    check.due("not seen at the row " + row, seen(x, 0, corner[0], row), 0);
                }
                x.move(0, 0, 0, down + down / 11);
                check.due("one beyond the other end", x.faults(0, 0), 4);
                check.due("not at its own", seen(x, 0, corner[0], corner[1]), 0);
            }
        });
        the.test("that is not clear, being moved", () -> {
            CelHouse x = new CelHouse();
            x.key();
            x.paint(0, 0);
            x.scene(1, 0);
            x.expose(0, 0, 0, 0);
            for (int i = 0; i < 6; i++) {
                x.peg(i - 1);
            }
            x.hang(0, 0, 5, 1);
            x.move(5, 0, 3, -2);
            // columns 3 to 15, rows 0 to 9, of the whole that is filled
            check.due("all that is left of it", Looks.count(x, 0, 0), 13 * 10);
            for (int i = 0; i < 6; i++) {
                x.move(i, 0, 20, 20);
            }
            check.due("far away", seen(x, 0, 15, 11), 0);
        });
        the.test("by the palette of the scene", () -> {
            CelHouse x = with(1, 1);
            x.scene(1, 3);
            x.expose(0, 0, 0, 0);
            x.expose(1, 0, 0, 0);
            x.colour(3, 0, 99);
            x.colour(2, 0, 55);
            check.due("the palette 0", seen(x, 0, 8, 6), 1);
            check.due("the palette 3", x.seen(1, 0, 8, 6), 99);
            check.due("the palette 3 anew", x.seenAnew(1, 0, 8, 6), 99);
            x.colour(0, 0, 98);
            check.due("changed afterwards", seen(x, 0, 8, 6), 98);
        });
        the.test("0 where none has", () -> {
            CelHouse x = with(1, 1);
            check.due("without drawings", seen(x, 0, 8, 6), 0);
            x.expose(0, 0, 0, 0);
            check.due("beside the dot", seen(x, 0, 7, 6), 0);
            check.due("the first point", seen(x, 0, 0, 0), 0);
            check.due("the last point", seen(x, 0, 15, 11), 0);
        });
    }

    private void ofShots() {
        the.test("To shoot a frame is to keep it as it is then", () -> {
            CelHouse x = with(1, 1);
            x.expose(0, 0, 0, 0);
            x.shoot(0);
            Looks.dot(x, 0, 0, 7, 6, 3);
            x.colour(0, 0, 50);
            check.due("as it was", x.shot(0, 0, 8, 6), 1);
            check.due("not as it is", x.shot(0, 0, 7, 6), 0);
            x.shoot(0);
            check.due("as it is now", x.shot(0, 0, 7, 6), 4);
            check.due("no more as it was", x.shot(0, 0, 8, 6), 0);
        });
        the.test("To shoot a scene is to shoot all its frames that were not shot, or are not as they were shot", () -> {
            CelHouse x = with(2, 4);
            x.expose(0, 0, 1, 0);
            x.expose(0, 0, 2, 1);
            check.due("none was shot, those without a point, too", x.shoot(0), 4);
            check.due("all are as they were shot", x.shoot(0), 0);
            Looks.dot(x, 0, 0, 8, 7, 0);
            check.due("one is not", x.shoot(0), 1);
            Looks.dot(x, 0, 0, 8, 6, 0);
            check.due("it is not again", x.shoot(0), 1);
            x.erase(1, 0);
            Looks.dot(x, 1, 5, 8, 6, 1);
            check.due("as they were shot, by another stroke", x.shoot(0), 0);
            x.colour(0, 1, 60);
            x.colour(0, 1, 2);
            check.due("as they were shot, by the same colour again", x.shoot(0), 0);
            x.colour(0, 1, 60);
            check.due("two by a colour", x.shoot(0), 2);
            for (int[] corner : new int[][] {{0, 0}, {15, 0}, {0, 11}, {15, 11}}) {
                Looks.dot(x, 0, 7, corner[0], corner[1], 2);
                check.due("one by a point in a corner", x.shoot(0), 1);
                x.erase(0, 7);
                check.due("and by one less", x.shoot(0), 1);
            }
        });
    }

    private void ofHanging() {
        the.test("A frame hangs on a drawing, if some level has that, or an in-between that hangs on it, there", () -> {
            CelHouse x = with(2, 5);
            x.between(0, 0, 0, 1);
            for (int level = 0; level < 4; level++) {
                x.expose(0, level, level, 0);
                x.expose(0, level, level + 1, NONE);
                check.due("level " + level, x.hangs(0, level, 0), true);
                check.due("not behind it", x.hangs(0, level + 1, 0), false);
                check.due("not on the in-between of it", x.hangs(0, level, 2), false);
                check.due("not on another one", x.hangs(0, level, 1), false);
            }
            x.expose(0, 3, 4, 2);
            check.due("by an in-between", x.hangs(0, 4, 0), true);
            check.due("on the in-between", x.hangs(0, 4, 2), true);
            check.due("not on another one still", x.hangs(0, 4, 1), false);
        });
        the.test("an in-between hangs on its two drawings, and on those on which they hang", () -> {
            CelHouse x = with(3, 1);
            x.between(0, 1, 1, 1);
            x.between(3, 3, 0, 1);
            x.between(2, 4, 0, 1);
            x.expose(0, 0, 0, 3);
            check.due("on a", x.hangs(0, 0, 0), true);
            check.due("on b", x.hangs(0, 0, 1), true);
            check.due("not on another one", x.hangs(0, 0, 2), false);
            check.due("not on what hangs on it", x.hangs(0, 0, 4), false);
            x.expose(0, 0, 0, 5);
            for (int drawing = 0; drawing < 6; drawing++) {
                check.due("on all, through its b, " + drawing, x.hangs(0, 0, drawing), true);
            }
            CelHouse y = with(1, 1);
            for (int i = 1; i < 16; i++) {
                y.between(i - 1, i - 1, 1, 2);
            }
            y.expose(0, 0, 0, 15);
            check.due("on the first one of 16", y.hangs(0, 0, 0), true);
            check.due("as it is", seen(y, 0, 8, 6), 1);
            Looks.dot(y, 0, 0, 0, 0, 5);
            check.due("as it is then", seen(y, 0, 0, 0), 6);
        });
    }

    private void ofApproved() {
        the.test("A drawing that is approved is not changed by calls for it", () -> {
            CelHouse x = with(1, 1);
            x.approve(0, true);
            check.noState("stroke", () -> x.stroke(0, 0, 0, 0, 0));
            check.noState("erase", () -> x.erase(0, 0));
            check.noState("paint", () -> x.paint(0, 0));
            check.noState("gaps", () -> x.gaps(0));
            check.due("as it was", x.of(0, 0) * 100 + x.of(0, 1) * 10 + x.of(0, 3), 101);
            check.due("its dot", x.point(0, 8, 6), 0);
            check.due("it can be had", x.between(0, 0, 0, 1), 1);
        });
        the.test("an in-between has nothing to be changed (it goes with its keys, approved or not)", () -> {
            CelHouse x = with(1, 1);
            x.between(0, 0, 0, 1);
            for (int i = 0; i < 2; i++) {
                check.noState("stroke", () -> x.stroke(1, 0, 0, 0, 0));
                check.noState("erase", () -> x.erase(1, 0));
                check.noState("paint", () -> x.paint(1, 0));
                check.noState("gaps", () -> x.gaps(1));
                Looks.dot(x, 0, 0, i, 0, 3);
                check.due("it goes with its key", x.point(1, i, 0), 3);
                check.due("not where it was", x.of(1, 3), 1);
                x.approve(1, i == 0);
            }
            x.approve(0, true);
            check.due("of an approved key", x.point(1, 1, 0), 3);
        });
        the.test("A retake of it takes that back, and tells how many frames of all scenes hang on it", () -> {
            CelHouse x = with(1, 3);
            x.scene(2, 0);
            x.expose(0, 0, 1, 0);
            x.expose(1, 0, 0, 0);
            x.approve(0, true);
            check.due("how many", x.approve(0, false), 4);
            check.due("taken back", x.stroke(0, 1, 0, 0, 0), 2);
        });
    }

    private void ofShoot() {
        the.in("Promise 19");
        the.test("Shoots a scene", () -> {
            CelHouse x = with(1, 2);
            x.scene(2, 0);
            x.expose(0, 0, 0, 0);
            x.expose(1, 0, 0, 0);
            x.shoot(0);
            check.due("the first frame", x.shot(0, 0, 8, 6), 1);
            check.due("the last one", x.shot(0, 1, 8, 6), 1);
            check.due("not another scene", x.shot(1, 0, 8, 6), NONE);
        });
        the.test("`scene`: its number", () -> {
            CelHouse x = with(0, 3);
            x.scene(5, 0);
            check.noPoints("scene", x::shoot, -1, 2, 5, 6);
            check.due("the highest", x.shoot(1), 5);
            check.due("the lowest", x.shoot(0), 3);
        });
        the.test("Returns how many frames were shot", () -> {
            CelHouse x = with(1, 24);
            check.due("all 24", x.shoot(0), 24);
            x.expose(0, 0, 23, 0);
            check.due("the last one", x.shoot(0), 1);
            x.expose(0, 3, 0, 0);
            check.due("all but the last one", x.shoot(0), 23);
            check.due("none", x.shoot(0), 0);
            x.scene(1, 0);
            check.due("the only one", x.shoot(1), 1);
        });
        the.test("Throws `IndexOutOfBoundsException` if there is no such scene", () -> {
            CelHouse x = new CelHouse();
            check.noPoint("without scenes", () -> x.shoot(0));
            x.scene(1, 0);
            check.noPoint("behind the last one", () -> x.shoot(1));
            check.due("nothing was shot", x.stale(0), 1);
        });
    }

    private void ofSeen(String promise, String what, Asked asked) {
        the.in(promise);
        the.test(what, () -> {
            CelHouse x = with(1, 1);
            x.expose(0, 0, 0, 0);
            check.due("the dot", asked.at(x, 0, 0, 8, 6), 1);
            Looks.box(x, 0, 2, 2, 6, 6, 4);
            Looks.paint(x, 0, 3, 3, 6);
            check.due("a line", asked.at(x, 0, 0, 2, 2), 5);
            check.due("a field", asked.at(x, 0, 0, 5, 5), 7);
            check.due("outside it", asked.at(x, 0, 0, 7, 7), 0);
        });
        ofSeenNumbers(asked);
        the.test("Returns the colour", () -> {
            CelHouse x = with(8, 1);
            x.colour(0, 0, 99);
            x.colour(0, 7, 1);
            for (int drawing = 0; drawing < 8; drawing++) {
                x.expose(0, 1, 0, drawing);
                int due = drawing == 0 ? 99 : drawing == 7 ? 1 : drawing + 1;
                check.due("the colour of " + drawing, asked.at(x, 0, 0, 8, 6), due);
            }
        });
        the.test("0 where nothing is", () -> {
            CelHouse x = with(1, 2);
            x.expose(0, 0, 1, 0);
            check.due("without a drawing", asked.at(x, 0, 0, 8, 6), 0);
            check.due("beside its dot", asked.at(x, 0, 1, 9, 6), 0);
        });
        the.test("Throws `IndexOutOfBoundsException` if there is no such scene, frame or point", () ->
            noFramePoint((x, w) -> asked.at(x, w[0], w[1], w[2], w[3])));
    }

    private void ofSeenNumbers(Asked asked) {
        the.test("`scene`: its number", () -> {
            CelHouse x = with(1, 1);
            x.scene(1, 0);
            x.expose(1, 0, 0, 0);
            x.shoot(0);
            x.shoot(1);
            check.noPoints("scene", scene -> asked.at(x, scene, 0, 0, 0), -1, 2, 5, 6);
            check.due("the lowest", asked.at(x, 0, 0, 8, 6), 0);
            check.due("the highest", asked.at(x, 1, 0, 8, 6), 1);
        });
        the.test("`frame`: from 0", () -> {
            CelHouse x = with(2, 5);
            x.expose(0, 0, 0, 0);
            x.expose(0, 0, 4, 1);
            x.shoot(0);
            check.noPoints("frame", frame -> asked.at(x, 0, frame, 0, 0), -1, 5, 24);
            check.due("the first", asked.at(x, 0, 0, 8, 6), 1);
            check.due("the last", asked.at(x, 0, 4, 8, 6), 2);
        });
        the.test("`x`: 0 to 15", () -> {
            CelHouse x = with(1, 1);
            x.expose(0, 0, 0, 0);
            Looks.dot(x, 0, 1, 0, 6, 4);
            Looks.dot(x, 0, 2, 15, 6, 5);
            x.shoot(0);
            check.noPoints("x", column -> asked.at(x, 0, 0, column, 6), -1, 16);
            check.due("0", asked.at(x, 0, 0, 0, 6), 5);
            check.due("15", asked.at(x, 0, 0, 15, 6), 6);
        });
        the.test("`y`: 0 to 11", () -> {
            CelHouse x = with(1, 1);
            x.expose(0, 0, 0, 0);
            Looks.dot(x, 0, 1, 8, 0, 4);
            Looks.dot(x, 0, 2, 8, 11, 5);
            x.shoot(0);
            check.noPoints("y", row -> asked.at(x, 0, 0, 8, row), -1, 12);
            check.due("0", asked.at(x, 0, 0, 8, 0), 5);
            check.due("11", asked.at(x, 0, 0, 8, 11), 6);
        });
    }

    private void noFramePoint(BiConsumer<CelHouse, int[]> asked) {
        CelHouse none = new CelHouse();
        check.noPoint("without scenes", () -> asked.accept(none, new int[] {0, 0, 0, 0}));
        CelHouse x = with(1, 1);
        int[][] wrong = {{1, 0, 0, 0}, {-1, 0, 0, 0}, {0, 1, 0, 0}, {0, -1, 0, 0}, {0, 0, 16, 0}, {0, 0, -1, 0},
            {0, 0, 0, 12}, {0, 0, 0, -1}, {0, 0, 16, 12}, {1, 1, 16, 12}, {0, 0, 12, 15}};
        for (int[] each : wrong) {
            String told = each[0] + ", " + each[1] + ", " + each[2] + ", " + each[3];
            check.noPoint("at " + told, () -> asked.accept(x, each));
        }
    }

    private void ofShot() {
        the.in("Promise 29");
        the.test("Returns a point of a frame as it was shot last", () -> {
            CelHouse x = with(2, 1);
            x.expose(0, 0, 0, 0);
            x.shoot(0);
            x.expose(0, 0, 0, 1);
            check.due("as it was shot", x.shot(0, 0, 8, 6), 1);
            x.stale(0);
            x.seen(0, 0, 8, 6);
            check.due("asking shoots nothing", x.shot(0, 0, 8, 6), 1);
            x.shoot(0);
            check.due("as it was shot last", x.shot(0, 0, 8, 6), 2);
            x.expose(0, 0, 0, NONE);
            x.shoot(0);
            check.due("shot with nothing", x.shot(0, 0, 8, 6), 0);
        });
        ofSeenNumbers(CelHouse::shot);
        the.test("Returns the colour", () -> {
            CelHouse x = with(1, 1);
            x.expose(0, 0, 0, 0);
            x.colour(0, 0, 99);
            x.shoot(0);
            check.due("where something is", x.shot(0, 0, 8, 6), 99);
            check.due("where nothing is", x.shot(0, 0, 0, 0), 0);
        });
        the.test("NONE if it was not shot", () -> {
            CelHouse x = with(1, 2);
            x.expose(0, 0, 0, 0);
            for (int frame = 0; frame < 2; frame++) {
                check.due("where something is", x.shot(0, frame, 8, 6), NONE);
                check.due("the first point", x.shot(0, frame, 0, 0), NONE);
                check.due("the last point", x.shot(0, frame, 15, 11), NONE);
            }
            x.scene(1, 0);
            x.shoot(1);
            check.due("another scene was", x.shot(0, 1, 0, 0), NONE);
            check.due("the other scene", x.shot(1, 0, 0, 0), 0);
        });
        the.test("Throws `IndexOutOfBoundsException` if there is no such scene, frame or point", () ->
            noFramePoint((x, w) -> x.shot(w[0], w[1], w[2], w[3])));
    }

    private void ofStale() {
        the.in("Promise 30");
        the.test("Returns how many frames of a scene would be shot", () -> {
            CelHouse x = with(2, 6);
            check.due("at first", x.stale(0), 6);
            x.shoot(0);
            check.due("right then", x.stale(0), 0);
            x.expose(0, 0, 5, 0);
            check.due("the last one", x.stale(0), 1);
            x.expose(0, 0, 0, 1);
            check.due("all", x.stale(0), 6);
            check.due("asked again", x.stale(0), 6);
            check.due("as many are shot", x.shoot(0), 6);
            x.approve(0, true);
            check.due("an approval changes no frame", x.stale(0), 0);
            x.peg(NONE);
            x.move(0, 0, 20, 0);
            x.hang(0, CAMERA, 0, 1);
            check.due("by the camera", x.stale(0), 6);
        });
        the.test("`scene`: its number", () -> {
            CelHouse x = with(0, 3);
            x.scene(5, 0);
            check.noPoints("scene", x::stale, -1, 2, 5, 6);
            check.due("the lowest", x.stale(0), 3);
            check.due("the highest", x.stale(1), 5);
        });
        the.test("Returns how many", () -> {
            CelHouse x = with(0, 24);
            x.scene(1, 0);
            check.due("24", x.stale(0), 24);
            check.due("1", x.stale(1), 1);
            x.shoot(1);
            check.due("0", x.stale(1), 0);
        });
        the.test("Throws `IndexOutOfBoundsException` if there is no such scene", () -> {
            CelHouse x = new CelHouse();
            check.noPoint("without scenes", () -> x.stale(0));
            x.scene(1, 0);
            check.noPoint("behind the last one", () -> x.stale(1));
        });
    }

    private void ofHangs() {
        the.in("Promise 31");
        the.test("Tells whether a frame hangs on a drawing", () -> {
            CelHouse x = with(2, 2);
            x.mouth(0, 1);
            x.voice(0, 1, 0);
            x.expose(0, 0, 0, 0);
            check.due("by a sheet", x.hangs(0, 0, 0), true);
            x.speaks(0, 0);
            check.due("no more, by the voice", x.hangs(0, 0, 0), false);
            check.due("by a mouth", x.hangs(0, 0, 1), true);
            x.peg(NONE);
            x.move(0, 0, 20, 20);
            x.hang(0, 0, 0, 1);
            check.due("though it is not seen", x.hangs(0, 1, 1), true);
        });
        the.test("`scene`: its number", () -> {
            CelHouse x = with(1, 1);
            x.scene(1, 0);
            x.expose(1, 0, 0, 0);
            check.noPoints("scene", scene -> x.hangs(scene, 0, 0), -1, 2, 5, 6);
            check.due("the lowest", x.hangs(0, 0, 0), false);
            check.due("the highest", x.hangs(1, 0, 0), true);
        });
        the.test("`frame`: from 0", () -> {
            CelHouse x = with(2, 3);
            x.expose(0, 0, 0, 0);
            x.expose(0, 0, 2, 1);
            check.noPoints("frame", frame -> x.hangs(0, frame, 0), -1, 3, 23);
            check.due("the first", x.hangs(0, 0, 0), true);
            check.due("the last", x.hangs(0, 2, 1), true);
        });
        the.test("`drawing`: its number", () -> {
            CelHouse x = with(3, 1);
            x.expose(0, 0, 0, 0);
            x.expose(0, 1, 0, 2);
            check.noPoints("drawing", drawing -> x.hangs(0, 0, drawing), -1, 3, 15, 16, 31, 32);
            check.due("the lowest", x.hangs(0, 0, 0), true);
            check.due("the one between", x.hangs(0, 0, 1), false);
            check.due("the highest", x.hangs(0, 0, 2), true);
        });
        the.test("Returns whether it does", () -> {
            CelHouse x = with(16, 2);
            x.expose(0, 0, 1, 15);
            check.due("blank", x.hangs(0, 0, 15), false);
            check.due("the drawing 15", x.hangs(0, 1, 15), true);
            check.due("the drawing 0", x.hangs(0, 1, 0), false);
        });
        the.test("Throws `IndexOutOfBoundsException` if there is no such scene, frame or drawing", () -> {
            CelHouse x = new CelHouse();
            x.key();
            check.noPoint("without scenes", () -> x.hangs(0, 0, 0));
            x.scene(1, 0);
            check.noPoint("no scene", () -> x.hangs(1, 0, 0));
            check.noPoint("no frame", () -> x.hangs(0, 1, 0));
            check.noPoint("no drawing", () -> x.hangs(0, 0, 1));
            check.noPoint("NONE is no drawing, though the frame is blank", () -> x.hangs(0, 0, NONE));
        });
    }
}
