/** Promises 9, 19 and 27 to 31: frames, shots, and what hangs on a drawing. */
public final class FramesTest {
    private static final Check check = new Check();

    public static void main(String[] args) {
        higherLevelsAreOnTop();
        levelsAreMoved();
        palettesColourFrames();
        fieldsAreSeenAnew();
        whatChangedIsShot();
        shotsAreKept();
        changesThatDoNotShow();
        framesHangOnDrawings();
        framesRefuse();
        check.end();
    }

    private static void higherLevelsAreOnTop() {
        CelHouse x = new CelHouse();
        x.key();
        x.key();
        Looks.line(x, 0, 0, 0, 1, 2, 1, 0);
        Looks.line(x, 1, 0, 1, 0, 1, 2, 1);
        x.scene(3, 0);
        x.expose(0, 1, 0, 0);
        x.expose(0, 2, 1, 1);
        x.expose(0, 3, 2, 0);
        check.due("one level", Looks.frame(x, 0, 0, 3, 3), ".../111/...");
        check.due("the higher level is on top", Looks.frame(x, 0, 1, 3, 3), ".2./121/.2.");
        check.due("a still higher one", Looks.frame(x, 0, 2, 3, 3), ".2./111/.2.");
        check.due("points of the frame 2, and anew", Looks.count(x, 0, 2), 5);
        x.expose(0, 2, 1, -1);
        check.due("a level that is blank", Looks.frame(x, 0, 1, 3, 3), ".../111/...");
    }

    /** A box on the level 0, and on the level 1 a dot, which hangs on a peg that moves. */
    private static CelHouse withBoxAndDot() {
        CelHouse x = new CelHouse();
        x.key();
        x.key();
        Looks.box(x, 0, 0, 0, 2, 2, 0);
        Looks.dot(x, 1, 0, 1, 1, 4);
        x.scene(3, 0);
        x.expose(0, 0, 0, 0);
        x.expose(0, 1, 0, 1);
        x.peg(-1);
        x.peg(-1);
        x.move(0, 0, 0, 0);
        x.move(0, 2, 2, 1);
        x.hang(0, 1, 0, 1);
        return x;
    }

    private static CelHouse withCameraAt(int column, int row) {
        CelHouse x = withBoxAndDot();
        x.move(1, 0, column, row);
        x.hang(0, 4, 1, 1);
        x.hang(0, 1, -1, 2);
        return x;
    }

    private static void levelsAreMoved() {
        CelHouse x = withBoxAndDot();
        check.due("at the frame 0", Looks.frame(x, 0, 0, 4, 4), "111./151./111./....");
        check.due("at the frame 1", Looks.frame(x, 0, 1, 4, 4), "111./1.5./111./....");
        check.due("at the frame 2", Looks.frame(x, 0, 2, 4, 4), "111./1.1./1115/....");
        // the box goes by -2 and -1, the dot by -1 and 0
        CelHouse near = withCameraAt(2, 1);
        check.due("with a camera", Looks.frame(near, 0, 0, 4, 4), "1.../5.../..../....");
        check.due("points then, and anew", Looks.count(near, 0, 0), 2);
        check.due("out of sight", Looks.count(withCameraAt(-20, 0), 0, 0), 1);
        CelHouse far = withCameraAt(-15, -11);
        check.due("at the last point", far.seen(0, 0, 15, 11), 1);
        check.due("points then, and anew, of two levels", Looks.count(far, 0, 0), 2);
    }

    private static void palettesColourFrames() {
        CelHouse x = new CelHouse();
        x.key();
        Looks.dot(x, 0, 0, 0, 0, 7);
        x.scene(1, 2);
        x.scene(1, 1);
        x.expose(0, 0, 0, 0);
        x.expose(1, 0, 0, 0);
        check.due("at first", x.seen(0, 0, 0, 0), 8);
        x.colour(2, 7, 99);
        check.due("in its palette", x.seen(0, 0, 0, 0), 99);
        check.due("in its palette anew", x.seenAnew(0, 0, 0, 0), 99);
        check.due("in another palette", x.seen(1, 0, 0, 0), 8);
        check.due("in another palette anew", x.seenAnew(1, 0, 0, 0), 8);
        check.due("where nothing is", x.seen(1, 0, 1, 0), 0);
        check.due("where nothing is anew", x.seenAnew(1, 0, 1, 0), 0);
    }

    /** A field with a gap of one point, another field, and one between both, which join it from frame to frame. */
    private static CelHouse withFields() {
        CelHouse x = new CelHouse();
        x.key();
        x.key();
        Looks.box(x, 0, 2, 2, 8, 8, 1);
        Looks.line(x, 0, 1, 8, 2, 8, 6, 1);
        Looks.dot(x, 0, 7, 8, 8, 2);
        Looks.box(x, 1, 4, 3, 12, 10, 3);
        x.pen(5, 5);
        x.paint(0, 4);
        x.paint(0, 5);
        x.paint(1, 6);
        x.gaps(0);
        x.between(0, 1, 2, 3);
        x.scene(3, 0);
        x.expose(0, 0, 0, 0);
        x.expose(0, 2, 1, 1);
        x.expose(0, 1, 2, 2);
        return x;
    }

    private static void fieldsAreSeenAnew() {
        // 23 lines, which are a box of 7 times 7 less one gap, and inside 5 times 5
        check.due("a closed field, and anew", Looks.count(withFields(), 0, 0), 48);
        // 7 times 7 and 9 times 8, of which 5 times 6 are both
        check.due("two fields, and anew", Looks.count(withFields(), 0, 1), 91);
        check.due("with a between, and anew", Looks.count(withFields(), 0, 2) / 1000, 0);
        CelHouse open = withFields();
        open.gaps(0);
        check.due("an open field, and anew", Looks.count(open, 0, 0), 192);
        check.due("an open field's last paint", open.seenAnew(0, 0, 0, 0), 6);
        CelHouse under = withFields();
        under.gaps(0);
        check.due("all of it under a field, and anew", Looks.count(under, 0, 1), 192);
    }

    private static void whatChangedIsShot() {
        CelHouse x = new CelHouse();
        x.key();
        x.key();
        Looks.dot(x, 0, 0, 0, 0, 0);
        Looks.dot(x, 1, 0, 1, 0, 0);
        x.scene(6, 0);
        x.expose(0, 0, 2, 0);
        x.expose(0, 0, 4, 1);
        check.due("stale at first, the empty ones too", x.stale(0), 6);
        check.due("shoot at first", x.shoot(0), 6);
        check.due("stale then", x.stale(0), 0);
        check.due("shoot then", x.shoot(0), 0);
        Looks.dot(x, 1, 0, 1, 1, 0);
        check.due("stale after a stroke", x.stale(0), 2);
        check.due("asking shoots nothing", x.stale(0), 2);
        Looks.dot(x, 1, 0, 1, 0, 0);
        check.due("stale after it is as it was", x.stale(0), 0);
        x.colour(0, 0, 9);
        check.due("stale after a colour", x.stale(0), 4);
        check.due("shoot after a colour", x.shoot(0), 4);
        x.expose(0, 0, 3, 1);
        check.due("stale after a sheet", x.stale(0), 1);
        x.speaks(0, 0);
        check.due("stale after it speaks", x.stale(0), 4);
        x.mouth(2, 1);
        x.voice(0, 0, 2);
        check.due("stale after mouths", x.stale(0), 4);
        check.due("shoot after mouths", x.shoot(0), 4);
        x.peg(-1);
        x.hang(0, 0, 0, 1);
        x.move(0, 3, 0, 0);
        x.move(0, 5, 8, 0);
        check.due("stale after a peg", x.stale(0), 2);
        x.scene(1, 0);
        check.due("another scene", x.stale(1), 1);
        check.due("shoot another scene", x.shoot(1), 1);
        check.due("stale still", x.stale(0), 2);
        check.noPoint("stale(2)", () -> x.stale(2));
        check.noPoint("stale(-1)", () -> x.stale(-1));
        check.noPoint("shoot(2)", () -> x.shoot(2));
        check.noPoint("shoot(-1)", () -> x.shoot(-1));
    }

    private static void shotsAreKept() {
        CelHouse x = new CelHouse();
        x.key();
        Looks.dot(x, 0, 0, 3, 2, 5);
        x.scene(2, 0);
        x.expose(0, 0, 1, 0);
        check.due("not shot", x.shot(0, 1, 3, 2), -1);
        check.due("not shot, where nothing is", x.shot(0, 0, 0, 0), -1);
        x.shoot(0);
        check.due("shot", x.shot(0, 1, 3, 2), 6);
        check.due("shot, where nothing is", x.shot(0, 0, 3, 2), 0);
        check.due("shot, where nothing is, too", x.shot(0, 1, 15, 11), 0);
        x.erase(0, 0);
        x.stroke(0, 1, 15, 11, 1);
        check.due("as it was shot", x.shot(0, 1, 3, 2), 6);
        check.due("as it was shot at the end", x.shot(0, 1, 15, 11), 0);
        check.due("as it is", x.seen(0, 1, 15, 11), 2);
        check.due("shoot again", x.shoot(0), 1);
        check.due("as it was shot last", x.shot(0, 1, 15, 11), 2);
        x.expose(0, 0, 1, -1);
        x.shoot(0);
        check.due("shot without it", x.shot(0, 1, 15, 11), 0);
    }

    private static void changesThatDoNotShow() {
        CelHouse x = new CelHouse();
        x.key();
        x.key();
        Looks.dot(x, 0, 0, 5, 5, 0);
        Looks.dot(x, 1, 0, 5, 5, 1);
        x.scene(2, 0);
        x.expose(0, 0, 0, 0);
        x.expose(0, 1, 0, 1);
        x.shoot(0);
        Looks.dot(x, 0, 0, 5, 5, 3);
        check.due("a stroke that is hidden", x.stale(0), 0);
        x.colour(0, 7, 44);
        check.due("a colour that is not used", x.stale(0), 0);
        x.colour(1, 1, 44);
        check.due("a colour of another palette", x.stale(0), 0);
        x.expose(0, 1, 1, 1);
        check.due("a sheet that has the same", x.stale(0), 0);
        x.colour(0, 1, 44);
        check.due("a colour that shows", x.stale(0), 2);
    }

    private static void framesHangOnDrawings() {
        CelHouse x = new CelHouse();
        x.key();
        x.key();
        x.key();
        x.between(0, 1, 1, 2);
        x.between(3, 3, 1, 2);
        x.scene(5, 0);
        x.expose(0, 1, 1, 4);
        x.expose(0, 1, 2, 3);
        x.expose(0, 1, 3, 1);
        x.expose(0, 3, 4, 2);
        int[][] due = {{0, 0, 0, 0, 0}, {1, 1, 0, 1, 1}, {1, 1, 0, 1, 0}, {0, 1, 0, 0, 0}, {0, 1, 1, 0, 0}};
        for (int frame = 0; frame < 5; frame++) {
            for (int drawing = 0; drawing < 5; drawing++) {
                check.due("frame " + frame + " hangs on " + drawing, x.hangs(0, frame, drawing), due[frame][drawing] == 1);
            }
        }
        x.speaks(0, 3);
        check.due("not what the sheet has", x.hangs(0, 4, 2), false);
        x.voice(0, 1, 0);
        x.mouth(0, 4);
        check.due("what the mouth hangs on", x.hangs(0, 0, 3), true);
        check.due("how many hang on 0", x.approve(0, true), 5);
        check.due("how many hang on 2", x.approve(2, true), 0);
    }

    private static void framesRefuse() {
        CelHouse x = new CelHouse();
        x.key();
        x.scene(2, 0);
        int[][] wrong = {{1, 0, 0, 0}, {-1, 0, 0, 0}, {0, 2, 0, 0}, {0, -1, 0, 0}, {0, 0, 16, 0},
            {0, 0, -1, 0}, {0, 0, 0, 12}, {0, 0, 0, -1}};
        for (int[] w : wrong) {
            check.noPoint("seen", () -> x.seen(w[0], w[1], w[2], w[3]));
            check.noPoint("seenAnew", () -> x.seenAnew(w[0], w[1], w[2], w[3]));
            check.noPoint("shot", () -> x.shot(w[0], w[1], w[2], w[3]));
        }
        check.noPoint("hangs(1, 0, 0)", () -> x.hangs(1, 0, 0));
        check.noPoint("hangs(-1, 0, 0)", () -> x.hangs(-1, 0, 0));
        check.noPoint("hangs(0, 2, 0)", () -> x.hangs(0, 2, 0));
        check.noPoint("hangs(0, -1, 0)", () -> x.hangs(0, -1, 0));
        check.noPoint("hangs(0, 0, 1)", () -> x.hangs(0, 0, 1));
        check.noPoint("hangs(0, 0, -1)", () -> x.hangs(0, 0, -1));
    }
}
