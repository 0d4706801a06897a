/** The sentences on pegs and the camera: those of "Pegs, camera", and of the promises 16 to 18 and 26. */
final class PegEdges {
    private static final int NONE = CelHouse.NONE, CAMERA = 4;

    private final Sentences the;
    private final Check check;

    PegEdges(Sentences sentences, Check complaints) {
        the = sentences;
        check = complaints;
    }

    void tell() {
        ofPegs();
        ofCameras();
        ofPeg();
        ofMove();
        ofHang();
        ofMoved();
    }

    /** Pegs that none carries, and a scene of 24 frames whose level 0 hangs on the peg 0. */
    private static CelHouse with(int pegs) {
        CelHouse x = new CelHouse();
        x.scene(24, 0);
        for (int i = 0; i < pegs; i++) {
            x.peg(NONE);
        }
        x.hang(0, 0, 0, 1);
        return x;
    }

    private static String placeAt(CelHouse x, int frame) {
        return x.moved(0, 0, frame, true) + "," + x.moved(0, 0, frame, false);
    }

    private void ofPegs() {
        the.in("Pegs, camera");
        the.test("Pegs are numbered from 0, at most 6", () -> {
            CelHouse x = new CelHouse();
            for (int i = 0; i < 6; i++) {
                check.due("a peg", x.peg(NONE), i);
            }
            check.noState("one too many", () -> x.peg(NONE));
            check.due("the peg 5 is there", x.move(5, 0, 0, 0), 1);
            check.noPoint("the peg 6 is not", () -> x.move(6, 0, 0, 0));
        });
        the.test("a peg has places told for frames, at most 6", () -> {
            CelHouse x = with(1);
            for (int i = 0; i < 6; i++) {
                check.due("a place more", x.move(0, 4 * i, i, -i), i + 1);
            }
            check.noState("one too many", () -> x.move(0, 1, 0, 0));
            for (int i = 0; i < 6; i++) {
                check.due("each of the six", placeAt(x, 4 * i), i + "," + -i);
            }
        });
        the.test("x and y from -20 to 20 each", () -> {
            CelHouse x = with(1);
            x.move(0, 0, -20, 20);
            x.move(0, 23, 20, -20);
            check.due("the least x, the greatest y", placeAt(x, 0), "-20,20");
            check.due("the greatest x, the least y", placeAt(x, 23), "20,-20");
            check.noRange("x too small", () -> x.move(0, 0, -21, 0));
            check.noRange("x too large", () -> x.move(0, 0, 21, 0));
            check.noRange("y too small", () -> x.move(0, 0, 0, -21));
            check.noRange("y too large", () -> x.move(0, 0, 0, 21));
        });
        the.test("for one frame one", () -> {
            CelHouse x = with(1);
            for (int i = 0; i < 9; i++) {
                check.due("in place of the one before", x.move(0, 7, i, i + 1), 1);
                check.due("it is there", placeAt(x, 7), i + "," + (i + 1));
            }
        });
        the.test("it can be carried by a lower peg", () -> {
            CelHouse x = new CelHouse();
            check.noPoint("the first one by none lower", () -> x.peg(0));
            x.peg(NONE);
            check.noPoint("the second one by itself", () -> x.peg(1));
            check.due("the second one by the first", x.peg(0), 1);
            check.noPoint("the third one by a higher one", () -> x.peg(3));
            check.due("the third one by the second", x.peg(1), 2);
        });
        the.test("Its own place at a frame: 0 and 0 without any told", () -> {
            CelHouse x = with(1);
            check.due("at the first frame", placeAt(x, 0), "0,0");
            check.due("at the last one", placeAt(x, 23), "0,0");
        });
        the.test("ahead of the first one that, behind the last one that", () -> {
            CelHouse x = with(1);
            x.move(0, 11, 5, -6);
            check.due("ahead of the only one", placeAt(x, 0), "5,-6");
            check.due("at it", placeAt(x, 11), "5,-6");
            check.due("behind it", placeAt(x, 23), "5,-6");
            x.move(0, 9, -7, 8);
            check.due("far ahead of the first one", placeAt(x, 0), "-7,8");
            check.due("right ahead of the first one", placeAt(x, 8), "-7,8");
            check.due("right behind the last one", placeAt(x, 12), "5,-6");
            x.move(0, 0, 1, 1);
            x.move(0, 23, 2, 2);
            check.due("the first frame's", placeAt(x, 0), "1,1");
            check.due("the last frame's", placeAt(x, 23), "2,2");
        });
        the.test("between two the earlier one and the frames gone since, times the difference, divided by the frames between both", () -> {
            CelHouse x = with(1);
            x.move(0, 0, 20, -20);
            x.move(0, 23, -20, 20);
            // 40 / 23 is 1, 11 * 40 / 23 is 19, 12 * 40 / 23 is 20, 22 * 40 / 23 is 38
            check.due("one gone", placeAt(x, 1), "19,-19");
            check.due("11 gone", placeAt(x, 11), "1,-1");
            check.due("12 gone", placeAt(x, 12), "0,0");
            check.due("22 gone", placeAt(x, 22), "-18,18");
            x.move(0, 4, -1, 0);
            x.move(0, 6, -4, 3);
            check.due("rounded towards 0", placeAt(x, 5), "-2,1");
            check.due("between the first two of four", placeAt(x, 2), "10,-10");
            check.due("between the last two of four", placeAt(x, 7), "-4,4");
            check.due("at one of them", placeAt(x, 4), "-1,0");
            x.move(0, 5, 9, 9);
            check.due("right beside one another", placeAt(x, 5), "9,9");
            check.due("and the next", placeAt(x, 6), "-4,3");
        });
        the.test("Its place is its own one, and that of the peg that carries it, together", () -> {
            CelHouse x = new CelHouse();
            x.scene(3, 0);
            for (int i = 0; i < 6; i++) {
                x.peg(i - 1);
                x.move(i, 0, 20, -20);
                x.move(i, 2, 17, -17);
                x.hang(0, 0, i, 1);
                check.due("as many as carry it", placeAt(x, 0), 20 * (i + 1) + "," + -20 * (i + 1));
                // each own place is rounded apart: 20 and 1 * -3 / 2 are 19
                check.due("rounded apart", placeAt(x, 1), 19 * (i + 1) + "," + -19 * (i + 1));
            }
            x.hang(0, 0, 0, 1);
            check.due("one that is carried by none", placeAt(x, 2), "17,-17");
            x.move(1, 2, 0, 0);
            x.hang(0, 0, 5, 1);
            check.due("one told place of six less", placeAt(x, 2), 17 * 5 + "," + -17 * 5);
        });
    }

    private void ofCameras() {
        the.test("A level of a scene has a peg, or none, and a depth, 1 to 4, at first 1", () -> {
            CelHouse x = with(2);
            x.move(0, 0, 3, 4);
            x.move(1, 0, 12, 12);
            x.hang(0, CAMERA, 1, 1);
            check.due("none at first, at the depth 1", x.moved(0, 3, 0, true), -12);
            for (int depth = 1; depth <= 4; depth++) {
                x.hang(0, 3, 0, depth);
                check.due("on a peg, at the depth " + depth, x.moved(0, 3, 0, true), 3 - 12 / depth);
                x.hang(0, 3, NONE, depth);
                check.due("on none, at the depth " + depth, x.moved(0, 3, 0, true), -12 / depth);
            }
            check.due("another level stays at 1", x.moved(0, 2, 0, true), -12);
            x.scene(1, 0);
            x.hang(1, CAMERA, 1, 4);
            check.due("another scene, too", x.moved(1, 3, 0, true), -12);
        });
        the.test("a scene has a peg for its camera, or none", () -> {
            CelHouse x = with(2);
            x.scene(24, 0);
            x.move(1, 0, 7, -7);
            check.due("none at first", placeAt(x, 0), "0,0");
            x.hang(0, CAMERA, 1, 1);
            check.due("a peg", placeAt(x, 0), "-7,7");
            check.due("not in another scene", x.moved(1, 0, 0, true), 0);
            x.hang(0, CAMERA, 0, 1);
            check.due("another peg", placeAt(x, 0), "0,0");
            x.hang(0, CAMERA, 1, 1);
            x.hang(0, CAMERA, NONE, 1);
            check.due("none again", placeAt(x, 0), "0,0");
        });
        the.test("At a frame a level is moved by the place of its peg, less the place of the camera divided by its depth, each of x and y", () -> {
            CelHouse x = with(2);
            x.move(0, 0, 5, 1);
            x.move(1, 0, -7, 11);
            x.hang(0, CAMERA, 1, 1);
            x.hang(0, 0, 0, 1);
            check.due("depth 1", placeAt(x, 0), "12,-10");
            x.hang(0, 0, 0, 2);
            // -7 / 2 is -3, 11 / 2 is 5
            check.due("depth 2", placeAt(x, 0), "8,-4");
            x.hang(0, 0, 0, 3);
            check.due("depth 3", placeAt(x, 0), "7,-2");
            x.hang(0, 0, 0, 4);
            check.due("depth 4", placeAt(x, 0), "6,-1");
            x.hang(0, 0, 1, 4);
            check.due("on the camera's own peg", placeAt(x, 0), "-6,9");
            x.move(1, 0, 3, -3);
            check.due("a camera nearer than its depth", placeAt(x, 0), "3,-3");
        });
    }

    private void ofPeg() {
        the.in("Promise 16");
        the.test("Makes a peg", () -> {
            CelHouse x = with(1);
            x.move(0, 0, 9, 9);
            x.peg(NONE);
            x.hang(0, 0, 1, 1);
            check.due("at 0 and 0", placeAt(x, 0), "0,0");
            check.due("without a place", x.move(1, 0, 1, 1), 1);
        });
        the.test("`by`: the lower peg that carries it, or NONE", () -> {
            CelHouse x = with(2);
            check.noPoints("by", x::peg, -2, 2, 5, 6);
            x.move(0, 0, 1, 0);
            x.move(1, 0, 0, 2);
            check.due("the lowest", x.peg(0), 2);
            check.due("the highest", x.peg(2), 3);
            check.due("none", x.peg(NONE), 4);
            x.hang(0, 0, 2, 1);
            check.due("carried by the lowest", placeAt(x, 0), "1,0");
            x.hang(0, 0, 3, 1);
            check.due("carried by one that is carried", placeAt(x, 0), "1,0");
            x.hang(0, 0, 4, 1);
            check.due("carried by none", placeAt(x, 0), "0,0");
        });
        the.test("Returns its number", () -> {
            CelHouse x = new CelHouse();
            for (int i = 0; i < 6; i++) {
                check.due("peg", x.peg(i - 1), i);
            }
        });
        the.test("Throws `IndexOutOfBoundsException` if there is no such peg, by not being NONE", () -> {
            CelHouse x = new CelHouse();
            check.noPoint("without pegs", () -> x.peg(0));
            check.due("NONE without pegs", x.peg(NONE), 0);
            check.noPoint("itself", () -> x.peg(1));
            check.noPoint("HOLD", () -> x.peg(CelHouse.HOLD));
            for (int i = 1; i < 6; i++) {
                x.peg(NONE);
            }
            check.noPoint("itself, if there are 6", () -> x.peg(6));
        });
        the.test("Throws `IllegalStateException` if there are 6", () -> {
            CelHouse x = with(5);
            check.due("the sixth", x.peg(4), 5);
            check.noState("the seventh", () -> x.peg(NONE));
            check.noState("the seventh, carried", () -> x.peg(5));
        });
    }

    private void ofMove() {
        the.in("Promise 17");
        the.test("Tells a place of a peg for a frame, in place of the one that was told for it", () -> {
            CelHouse x = with(2);
            x.move(0, 4, 2, 3);
            check.due("there", placeAt(x, 4), "2,3");
            x.move(0, 4, -5, 6);
            check.due("in place of it", placeAt(x, 4), "-5,6");
            x.move(1, 4, 9, 9);
            check.due("not of another peg's", placeAt(x, 4), "-5,6");
        });
        the.test("`peg`: its number", () -> {
            CelHouse x = with(3);
            check.noPoints("peg", peg -> x.move(peg, 0, 0, 0), -1, 3, 5, 6);
            check.due("the lowest", x.move(0, 0, 0, 0), 1);
            check.due("the highest", x.move(2, 0, 0, 0), 1);
        });
        the.test("`frame`: 0 to 23", () -> {
            CelHouse x = with(1);
            check.noRanges("frame", frame -> x.move(0, frame, 0, 0), -1, 24);
            x.move(0, 0, 1, 0);
            x.move(0, 23, 2, 0);
            check.due("0", placeAt(x, 0), "1,0");
            check.due("23", placeAt(x, 23), "2,0");
            CelHouse y = new CelHouse();
            y.scene(1, 0);
            y.peg(NONE);
            check.due("23, though no scene has it", y.move(0, 23, 0, 0), 1);
        });
        the.test("`x`: -20 to 20", () -> {
            CelHouse x = with(1);
            check.noRanges("x", left -> x.move(0, 0, left, 0), -21, 21);
            check.due("-20", x.move(0, 0, -20, 0), 1);
            check.due("-20 there", placeAt(x, 0), "-20,0");
            check.due("20", x.move(0, 0, 20, 0), 1);
            check.due("20 there", placeAt(x, 0), "20,0");
        });
        the.test("`y`: -20 to 20", () -> {
            CelHouse x = with(1);
            check.noRanges("y", down -> x.move(0, 0, 0, down), -21, 21);
            check.due("-20", x.move(0, 0, 0, -20), 1);
            check.due("-20 there", placeAt(x, 0), "0,-20");
            check.due("20", x.move(0, 0, 0, 20), 1);
            check.due("20 there", placeAt(x, 0), "0,20");
        });
        the.test("Returns how many were told", () -> {
            CelHouse x = with(2);
            check.due("one", x.move(0, 20, 0, 0), 1);
            check.due("two", x.move(0, 10, 0, 0), 2);
            check.due("in place of one", x.move(0, 20, 1, 1), 2);
            check.due("three", x.move(0, 0, 0, 0), 3);
            check.due("of another peg", x.move(1, 20, 1, 1), 1);
        });
        the.test("Throws `IndexOutOfBoundsException` if there is no such peg", () -> {
            CelHouse x = new CelHouse();
            check.noPoint("without pegs", () -> x.move(0, 0, 0, 0));
            x.peg(NONE);
            check.noPoint("behind the last one", () -> x.move(1, 0, 0, 0));
            check.noPoint("no peg, no frame", () -> x.move(1, 24, 0, 0));
            check.noPoint("no peg, no place", () -> x.move(NONE, 0, 21, -21));
        });
        the.test("Throws `IllegalArgumentException` if frame, x or y is out of range", () -> {
            CelHouse x = with(1);
            for (int i = 0; i < 6; i++) {
                x.move(0, i, i, i);
            }
            check.noRange("frame", () -> x.move(0, 24, 0, 0));
            check.noRange("x", () -> x.move(0, 0, 21, 0));
            check.noRange("y", () -> x.move(0, 0, 0, -21));
            check.noRange("x, and a place too many", () -> x.move(0, 9, -21, 0));
            check.noRange("y, and a place too many", () -> x.move(0, 9, 0, 21));
            check.due("as before", placeAt(x, 0), "0,0");
        });
        the.test("Throws `IllegalStateException` if 6 others were told", () -> {
            CelHouse x = with(2);
            for (int i = 0; i < 5; i++) {
                x.move(0, i, 1, 1);
            }
            check.due("the sixth", x.move(0, 23, 2, 2), 6);
            check.noState("the seventh", () -> x.move(0, 22, 0, 0));
            check.noState("the seventh again", () -> x.move(0, 5, 0, 0));
            check.due("in place of the first of 6", x.move(0, 0, 3, 3), 6);
            check.due("in place of the last of 6", x.move(0, 23, 4, 4), 6);
            check.due("the first", placeAt(x, 0), "3,3");
            check.due("the last", placeAt(x, 23), "4,4");
            check.due("of another peg", x.move(1, 22, 0, 0), 1);
        });
    }

    private void ofHang() {
        the.in("Promise 18");
        the.test("Puts a level on a peg, at a depth", () -> {
            CelHouse x = with(2);
            x.move(0, 0, 4, 4);
            x.move(1, 0, 9, 9);
            x.hang(0, CAMERA, 1, 1);
            x.hang(0, 1, 0, 3);
            check.due("on it, at the depth", x.moved(0, 1, 0, true), 1);
            check.due("not another level", x.moved(0, 2, 0, true), -9);
            x.hang(0, 1, 1, 1);
            check.due("on another one, at another depth", x.moved(0, 1, 0, true), 0);
        });
        the.test("`scene`: its number", () -> {
            CelHouse x = with(1);
            x.move(0, 0, 2, 2);
            x.scene(1, 0);
            check.noPoints("scene", scene -> x.hang(scene, 1, 0, 1), -1, 2, 5, 6);
            x.hang(1, 1, 0, 1);
            check.due("the highest", x.moved(1, 1, 0, true), 2);
            check.due("not the lowest", x.moved(0, 1, 0, true), 0);
            x.hang(0, 1, 0, 1);
            check.due("the lowest", x.moved(0, 1, 0, true), 2);
        });
        the.test("`level`: 0 to 3", () -> {
            CelHouse x = with(1);
            check.noPoints("level", level -> x.hang(0, level, 0, 1), -1, 5);
            x.move(0, 0, 2, 2);
            x.hang(0, 0, NONE, 1);
            check.due("0", x.moved(0, 0, 0, true), 0);
            x.hang(0, 3, 0, 1);
            check.due("3", x.moved(0, 3, 0, true), 2);
        });
        the.test("4 for the camera, whose depth does not matter", () -> {
            CelHouse x = with(1);
            x.move(0, 0, 9, 9);
            x.hang(0, 1, NONE, 2);
            for (int depth : new int[] {0, -1, 5, Integer.MIN_VALUE, Integer.MAX_VALUE}) {
                x.hang(0, CAMERA, NONE, depth);
                check.due("none", x.moved(0, 1, 0, true), 0);
                x.hang(0, CAMERA, 0, depth);
                check.due("the camera's depth does not divide it", x.moved(0, 1, 0, true), -4);
            }
            check.noPoint("a peg that is not there", () -> x.hang(0, CAMERA, 1, 0));
        });
        the.test("`peg`: a peg, or NONE", () -> {
            CelHouse x = with(3);
            check.noPoints("peg", peg -> x.hang(0, 1, peg, 1), -2, 3, 5, 6);
            check.noPoints("the camera's peg", peg -> x.hang(0, CAMERA, peg, 1), -2, 3, 5, 6);
            x.move(0, 0, 2, 2);
            x.move(2, 0, 3, 3);
            x.hang(0, 1, 0, 1);
            check.due("the lowest", x.moved(0, 1, 0, true), 2);
            x.hang(0, 1, 2, 1);
            check.due("the highest", x.moved(0, 1, 0, true), 3);
            x.hang(0, 1, NONE, 1);
            check.due("none", x.moved(0, 1, 0, true), 0);
        });
        the.test("`depth`: 1 to 4", () -> {
            CelHouse x = with(2);
            x.move(1, 0, 12, 12);
            x.hang(0, CAMERA, 1, 1);
            check.noRanges("depth", depth -> x.hang(0, 0, 0, depth), -1, 0, 5);
            check.due("as before", placeAt(x, 0), "-12,-12");
            x.hang(0, 0, 0, 4);
            check.due("4", placeAt(x, 0), "-3,-3");
            x.hang(0, 0, 0, 1);
            check.due("1", placeAt(x, 0), "-12,-12");
        });
        the.test("Throws `IndexOutOfBoundsException` if there is no such scene, level, or peg, that not being NONE", () -> {
            CelHouse x = new CelHouse();
            check.noPoint("without scenes", () -> x.hang(0, 0, NONE, 1));
            x.scene(1, 0);
            check.noPoint("without pegs", () -> x.hang(0, 0, 0, 1));
            x.hang(0, 0, NONE, 1);
            check.noPoint("no scene", () -> x.hang(1, CAMERA, NONE, 1));
            check.noPoint("no level", () -> x.hang(0, 5, NONE, 1));
            check.noPoint("no level, no depth", () -> x.hang(0, 5, NONE, 0));
            check.noPoint("no peg, no depth", () -> x.hang(0, 0, 0, 5));
            check.noPoint("no scene, no depth", () -> x.hang(-1, 0, NONE, 0));
        });
        the.test("Throws `IllegalArgumentException` if depth is out of range, the level being 0 to 3", () -> {
            CelHouse x = with(2);
            x.move(0, 0, 5, 5);
            for (int level = 0; level < 4; level++) {
                int asked = level;
                check.noRange("0 of level " + level, () -> x.hang(0, asked, 1, 0));
                check.noRange("5 of level " + level, () -> x.hang(0, asked, NONE, 5));
            }
            check.due("it hangs as before", placeAt(x, 0), "5,5");
        });
    }

    private void ofMoved() {
        the.in("Promise 26");
        the.test("Returns how a level is moved at a frame", () -> {
            CelHouse x = with(1);
            x.move(0, 3, 1, 2);
            x.move(0, 4, 3, 4);
            check.due("at a frame", placeAt(x, 3), "1,2");
            check.due("at the next one", placeAt(x, 4), "3,4");
            check.due("a level without a drawing, too", x.has(0, 0, 3), NONE);
        });
        the.test("`scene`: its number", () -> {
            CelHouse x = with(1);
            x.move(0, 0, 1, 2);
            x.scene(1, 0);
            check.noPoints("scene", scene -> x.moved(scene, 0, 0, true), -1, 2, 5, 6);
            check.due("the lowest", x.moved(0, 0, 0, true), 1);
            check.due("the highest", x.moved(1, 0, 0, true), 0);
        });
        the.test("`level`: 0 to 3", () -> {
            CelHouse x = with(1);
            x.move(0, 0, 1, 2);
            x.hang(0, 3, 0, 1);
            check.noPoints("level", level -> x.moved(0, level, 0, false), -1, 4);
            check.due("0", x.moved(0, 0, 0, false), 2);
            check.due("1", x.moved(0, 1, 0, false), 0);
            check.due("3", x.moved(0, 3, 0, false), 2);
        });
        the.test("`frame`: from 0", () -> {
            CelHouse x = with(1);
            x.scene(2, 0);
            x.hang(1, 0, 0, 1);
            x.move(0, 0, 1, 2);
            x.move(0, 1, 3, 4);
            check.noPoints("frame of 24", frame -> x.moved(0, 0, frame, true), -1, 24);
            check.noPoints("frame of 2", frame -> x.moved(1, 0, frame, true), -1, 2, 23);
            check.due("the first", x.moved(1, 0, 0, true), 1);
            check.due("the last", x.moved(1, 0, 1, true), 3);
        });
        the.test("`inX`: whether that in x is told, otherwise that in y", () -> {
            CelHouse x = with(1);
            x.move(0, 0, 20, -20);
            check.due("in x", x.moved(0, 0, 0, true), 20);
            check.due("in y", x.moved(0, 0, 0, false), -20);
        });
        the.test("Returns the points", () -> {
            CelHouse x = new CelHouse();
            x.scene(1, 0);
            for (int i = 0; i < 6; i++) {
                x.peg(i % 3 == 0 ? NONE : i - 1);
                x.move(i, 0, i < 3 ? 20 : -20, i < 3 ? -20 : 20);
            }
            x.hang(0, 0, 2, 1);
            x.hang(0, CAMERA, 5, 1);
            check.due("far to the right", x.moved(0, 0, 0, true), 120);
            check.due("far up", x.moved(0, 0, 0, false), -120);
            x.hang(0, 0, NONE, 1);
            x.hang(0, CAMERA, NONE, 1);
            check.due("none", x.moved(0, 0, 0, true), 0);
        });
        the.test("Throws `IndexOutOfBoundsException` if there is no such scene, level or frame", () -> {
            CelHouse x = new CelHouse();
            check.noPoint("without scenes", () -> x.moved(0, 0, 0, true));
            x.scene(1, 0);
            check.noPoint("no scene", () -> x.moved(1, 0, 0, true));
            check.noPoint("the camera is no level", () -> x.moved(0, CAMERA, 0, true));
            check.noPoint("no frame", () -> x.moved(0, 0, 1, false));
        });
    }
}
