/** The sentences of "Faults, hands, the film", and of the promises 20 to 22 and 32 to 34. */
final class FilmEdges {
    private static final int NONE = CelHouse.NONE, CYCLE = CelHouse.CYCLE;

    private final Sentences the;
    private final Check check;

    FilmEdges(Sentences sentences, Check complaints) {
        the = sentences;
        check = complaints;
    }

    void tell() {
        ofFaultsThatAreFound();
        ofHands();
        ofFilms();
        ofHand();
        ofSplice();
        ofCut();
        ofFaults();
        ofHours();
        ofFilm();
    }

    /** Keys, each with a dot at (0, 0), and a scene 0 whose level 3 has the key 0 throughout. */
    private static CelHouse with(int keys, int frames) {
        CelHouse x = new CelHouse();
        for (int i = 0; i < keys; i++) {
            x.key();
            Looks.dot(x, i, 0, 0, 0, 0);
        }
        x.scene(frames, 0);
        x.expose(0, 3, 0, 0);
        return x;
    }

    private static String faultsOf(CelHouse x, int frames) {
        StringBuilder text = new StringBuilder();
        for (int frame = 0; frame < frames; frame++) {
            text.append(x.faults(0, frame));
        }
        return text.toString();
    }

    private static void tellSheet(CelHouse x, int level, int... drawings) {
        for (int frame = 0; frame < drawings.length; frame++) {
            x.expose(0, level, frame, drawings[frame]);
        }
    }

    private void ofFaultsThatAreFound() {
        the.in("Faults, hands, the film");
        the.test("A frame has a fault: 1, if some level has a drawing without strokes", () -> {
            CelHouse x = with(2, 4);
            x.key();
            x.between(0, 2, 0, 1);
            for (int level = 0; level < 3; level++) {
                x.expose(0, level, 1, 2);
                check.due("level " + level, x.faults(0, 1), 1);
                check.due("not ahead", x.faults(0, 0), 0);
                x.expose(0, level, 1, 1);
                check.due("a drawing with a stroke", x.faults(0, 1), 0);
            }
            x.expose(0, 1, 1, 3);
            check.due("an in-between without strokes", x.faults(0, 1), 1);
            Looks.dot(x, 2, 0, 5, 5, 5);
            check.due("an in-between with one", x.faults(0, 1), 0);
            x.erase(2, 0);
            x.expose(0, 2, 1, 2);
            check.due("two of them count once", x.faults(0, 1), 1);
            x.paint(2, 0);
            x.expose(0, 1, 1, NONE);
            check.due("a paint is no stroke", x.faults(0, 1), 1);
            x.expose(0, 2, 1, NONE);
            check.due("blank is no drawing", x.faults(0, 1), 0);
        });
        the.test("2, if some level has another drawing, or none, than it has both at the frame ahead and at the next one", () -> {
            CelHouse x = with(3, 5);
            for (int level = 0; level < 3; level++) {
                tellSheet(x, level, 1, 1, 2, 1, 1);
                check.due("another drawing", faultsOf(x, 5), "00200");
                tellSheet(x, level, 1, 1, NONE, 1, 1);
                check.due("none", faultsOf(x, 5), "00200");
                tellSheet(x, level, 1, 1, 1, 1, 1);
                check.due("the same", faultsOf(x, 5), "00000");
            }
            tellSheet(x, 0, 1, 2, 1, 2, 1);
            check.due("all but the first and the last", faultsOf(x, 5), "02220");
            tellSheet(x, 1, 2, 1, 2, 1, 2);
            check.due("on two levels they count once", faultsOf(x, 5), "02220");
            tellSheet(x, 1, 1, 1, 1, 1, 1);
            tellSheet(x, 0, 1, 2, 2, 1, 1);
            check.due("two frames long it is none", faultsOf(x, 5), "00000");
        });
        the.test("both at the frame ahead and at the next one", () -> {
            CelHouse x = with(2, 3);
            tellSheet(x, 0, 1, 0, 1);
            check.due("ahead of the first one, and behind the last one, there is none", faultsOf(x, 3), "020");
            CelHouse y = with(2, 1);
            check.due("the only one", y.faults(0, 0), 0);
            CelHouse z = with(2, 2);
            tellSheet(z, 0, 1, 0);
            check.due("two frames", faultsOf(z, 2), "00");
            tellSheet(z, 0, NONE, 1);
            check.due("a blank at first", faultsOf(z, 2), "00");
            CelHouse w = with(2, 3);
            tellSheet(w, 0, 1, 0, NONE);
            check.due("the frame ahead alone", faultsOf(w, 3), "000");
            tellSheet(w, 0, NONE, 0, 1);
            check.due("the next frame alone", faultsOf(w, 3), "000");
            w.mouth(1, 0);
            w.mouth(2, 1);
            w.voice(0, 0, 2);
            w.voice(0, 1, 1);
            w.voice(0, 2, 2);
            w.speaks(0, 0);
            // the mouths of the next frames: 0, 1, and 1 for the last one
            check.due("of mouths", faultsOf(w, 3), "000");
        });
        the.test("which are alike, and no blank", () -> {
            CelHouse x = with(3, 3);
            tellSheet(x, 0, 1, 0, 2);
            check.due("unlike", x.faults(0, 1), 0);
            tellSheet(x, 0, NONE, 0, NONE);
            check.due("blanks", x.faults(0, 1), 0);
            tellSheet(x, 0, 1, NONE, 2);
            check.due("unlike around a blank", x.faults(0, 1), 0);
            tellSheet(x, 0, 1, 0, CYCLE + 2);
            check.due("alike by a cycle", x.faults(0, 1), 2);
            tellSheet(x, 0, 0, 1, 0);
            tellSheet(x, 1, 1, 0, 1);
            check.due("on each level apart", x.faults(0, 1), 2);
            x.expose(0, 0, 2, 1);
            x.expose(0, 1, 2, 0);
            check.due("alike on another level alone", x.faults(0, 1), 0);
        });
        the.test("4, if all its points are 0", () -> {
            CelHouse x = with(1, 2);
            check.due("one point", x.faults(0, 0), 0);
            x.expose(0, 3, 0, NONE);
            check.due("no drawing", x.faults(0, 0), 4);
            x.key();
            Looks.dot(x, 1, 0, 15, 11, 0);
            x.expose(0, 1, 0, 1);
            check.due("the last point", x.faults(0, 0), 0);
            x.peg(NONE);
            x.hang(0, 1, 0, 1);
            x.move(0, 0, 0, 1);
            check.due("none is seen", x.faults(0, 0), 4);
            x.move(0, 0, 0, -11);
            check.due("one is seen again", x.faults(0, 0), 0);
        });
        the.test("together", () -> {
            CelHouse x = with(1, 3);
            x.key();
            tellSheet(x, 3, 0, 1, 0);
            check.due("1, 2 and 4", faultsOf(x, 3), "070");
            tellSheet(x, 3, 1, 1, 1);
            check.due("1 and 4", faultsOf(x, 3), "555");
            tellSheet(x, 3, 0, NONE, 0);
            check.due("2 and 4", faultsOf(x, 3), "060");
            tellSheet(x, 2, 0, 0, 0);
            tellSheet(x, 3, 0, 1, 0);
            check.due("1 and 2", faultsOf(x, 3), "030");
        });
    }

    private void ofHands() {
        the.test("Hands are numbered from 0, at most 4, each with a speed, 1 to 9", () -> {
            CelHouse x = new CelHouse();
            for (int i = 0; i < 4; i++) {
                check.due("a hand", x.hand(i % 2 == 0 ? 1 : 9), i);
            }
            check.noState("one too many", () -> x.hand(1));
            check.due("the hand 3 is there", x.hours(3), 0);
            check.noPoint("the hand 4 is not", () -> x.hours(4));
        });
        the.test("All keys with strokes are drawn by hands, by rising numbers", () -> {
            CelHouse x = with(1, 1);
            x.hand(1);
            x.key();
            x.between(0, 0, 0, 1);
            check.due("neither an empty key nor an in-between", x.hours(0), 1);
            x.paint(1, 0);
            check.due("nor one with a paint alone", x.hours(0), 1);
            x.approve(0, true);
            check.due("an approved one", x.hours(0), 1);
            x.stroke(1, 3, 0, 0, 0);
            check.due("a key more", x.hours(0), 2);
            x.erase(1, 3);
            check.due("a key less", x.hours(0), 1);
            // keys of 8, 1 and 1 strokes: by falling numbers the hand 0 would draw one more ahead of the 8
            CelHouse y = with(3, 1);
            for (int name = 1; name < 8; name++) {
                y.stroke(0, name, 0, 0, 0);
            }
            y.hand(1);
            y.hand(2);
            check.due("the key 0", y.hours(0), 8);
            check.due("the keys 1 and 2", y.hours(1), 2);
        });
        the.test("each by the hand that is free first, of several the lowest", () -> {
            CelHouse x = with(4, 1);
            for (int i = 0; i < 4; i++) {
                x.hand(9);
            }
            check.due("each one hour", x.hours(0) + x.hours(1) + x.hours(2) + x.hours(3), 4);
            x.key();
            Looks.dot(x, 4, 0, 0, 0, 0);
            check.due("of four the lowest", x.hours(0), 2);
            check.due("not the next one", x.hours(1), 1);
            x.erase(2, 0);
            check.due("the last one has none then", x.hours(3), 1);
            check.due("nor the lowest two", x.hours(0), 1);
            x.erase(3, 0);
            check.due("the last one is free", x.hours(3), 0);
        });
        the.test("it takes as many hours as it has strokes, divided by the speed, rounded up", () -> {
            int[][] due = {{1, 1, 1}, {1, 8, 8}, {2, 7, 4}, {2, 8, 4}, {3, 6, 2}, {3, 7, 3}, {7, 8, 2}, {8, 8, 1}, {9, 8, 1}, {9, 1, 1}};
            for (int[] each : due) {
                CelHouse x = with(1, 1);
                for (int name = 1; name < each[1]; name++) {
                    x.stroke(0, name, 0, 0, 0);
                }
                x.hand(each[0]);
                check.due(each[1] + " strokes at the speed " + each[0], x.hours(0), each[2]);
            }
            CelHouse y = with(16, 1);
            for (int key = 0; key < 16; key++) {
                for (int name = 1; name < 8; name++) {
                    y.stroke(key, name, 0, 0, 0);
                }
            }
            y.hand(3);
            check.due("each key rounded apart", y.hours(0), 16 * 3);
        });
    }

    private void ofFilms() {
        the.test("The film is a row of scenes, at most 10, each perhaps several times", () -> {
            CelHouse x = with(1, 24);
            x.scene(1, 0);
            for (int i = 0; i < 9; i++) {
                check.due("the same again", x.splice(0), 24 * (i + 1));
            }
            check.due("the tenth", x.splice(1), 217);
            check.noState("one too many", () -> x.splice(1));
            check.due("the last frame of the ninth", x.film(215), 23);
            check.due("the tenth's frame", x.film(216), 100);
        });
        the.test("its frames are numbered from 0, one scene behind the other", () -> {
            CelHouse x = with(1, 2);
            x.scene(1, 0);
            x.scene(3, 0);
            for (int scene : new int[] {2, 1, 0, 2, 1, 1}) {
                x.splice(scene);
            }
            int[] due = {200, 201, 202, 100, 0, 1, 200, 201, 202, 100, 100};
            for (int frame = 0; frame < due.length; frame++) {
                check.due("the frame " + frame, x.film(frame), due[frame]);
            }
            check.noPoint("behind the last one", () -> x.film(11));
        });
    }

    private void ofHand() {
        the.in("Promise 20");
        the.test("Makes a hand", () -> {
            CelHouse x = with(1, 1);
            check.noPoint("none yet", () -> x.hours(0));
            x.hand(4);
            check.due("one that draws", x.hours(0), 1);
        });
        the.test("`speed`: 1 to 9", () -> {
            CelHouse x = with(1, 1);
            check.noRanges("speed", x::hand, -1, 0, 10);
            check.due("9", x.hand(9), 0);
            check.due("1", x.hand(1), 1);
        });
        the.test("Returns its number", () -> {
            CelHouse x = new CelHouse();
            for (int i = 0; i < 4; i++) {
                check.due("hand", x.hand(5), i);
            }
        });
        the.test("Throws `IllegalArgumentException` if speed is out of range", () -> {
            CelHouse x = new CelHouse();
            check.noRange("too slow", () -> x.hand(0));
            check.noRange("too fast", () -> x.hand(10));
            check.due("none was made", x.hand(3), 0);
            for (int i = 1; i < 4; i++) {
                x.hand(3);
            }
            check.noRange("too slow, if there are 4", () -> x.hand(0));
            check.noRange("too fast, if there are 4", () -> x.hand(10));
        });
        the.test("Throws `IllegalStateException` if there are 4", () -> {
            CelHouse x = new CelHouse();
            for (int i = 0; i < 3; i++) {
                x.hand(1);
            }
            check.due("the fourth", x.hand(1), 3);
            check.noState("the fifth", () -> x.hand(1));
            check.noState("the fifth again", () -> x.hand(9));
        });
    }

    private void ofSplice() {
        the.in("Promise 21");
        the.test("Puts a scene behind the film", () -> {
            CelHouse x = with(1, 2);
            x.scene(3, 0);
            x.splice(1);
            x.splice(0);
            check.due("the first one", x.film(0), 100);
            check.due("behind it", x.film(3), 0);
        });
        the.test("`scene`: its number", () -> {
            CelHouse x = with(1, 2);
            x.scene(3, 0);
            check.noPoints("scene", x::splice, -1, 2, 5, 6);
            check.due("the highest", x.splice(1), 3);
            check.due("the lowest", x.splice(0), 5);
        });
        the.test("Returns how many frames the film has then", () -> {
            CelHouse x = with(1, 24);
            for (int i = 1; i <= 10; i++) {
                check.due("of " + i, x.splice(0), 24 * i);
            }
        });
        the.test("Throws `IndexOutOfBoundsException` if there is no such scene", () -> {
            CelHouse x = new CelHouse();
            check.noPoint("without scenes", () -> x.splice(0));
            x.scene(1, 0);
            check.noPoint("behind the last one", () -> x.splice(1));
            for (int i = 0; i < 10; i++) {
                x.splice(0);
            }
            check.noPoint("behind the last one, and a scene too many", () -> x.splice(1));
        });
        the.test("Throws `IllegalStateException` if it has 10 scenes", () -> {
            CelHouse x = with(1, 2);
            for (int i = 0; i < 9; i++) {
                x.splice(0);
            }
            check.due("the tenth", x.splice(0), 20);
            check.noState("the eleventh", () -> x.splice(0));
            check.noState("the eleventh again", () -> x.splice(0));
            check.noPoint("its frame is not there", () -> x.film(20));
        });
    }

    private void ofCut() {
        the.in("Promise 22");
        the.test("Takes all scenes out of the film", () -> {
            CelHouse x = with(1, 2);
            for (int i = 0; i < 10; i++) {
                x.splice(0);
            }
            x.cut();
            check.noPoint("no frame", () -> x.film(0));
            for (int i = 1; i <= 10; i++) {
                check.due("ten anew", x.splice(0), 2 * i);
            }
            check.noState("and no more", () -> x.splice(0));
            check.due("the scene is there still", x.stale(0), 2);
        });
        the.test("returns how many frames it had", () -> {
            CelHouse x = with(1, 24);
            check.due("none", x.cut(), 0);
            for (int i = 0; i < 10; i++) {
                x.splice(0);
            }
            check.due("the most", x.cut(), 240);
            check.due("none again", x.cut(), 0);
        });
    }

    private void ofFaults() {
        the.in("Promise 32");
        the.test("Returns the faults of a frame", () -> {
            CelHouse x = with(1, 2);
            x.expose(0, 3, 1, NONE);
            check.due("none, and one", faultsOf(x, 2), "04");
        });
        the.test("`scene`: its number", () -> {
            CelHouse x = with(1, 1);
            x.scene(1, 0);
            check.noPoints("scene", scene -> x.faults(scene, 0), -1, 2, 5, 6);
            check.due("the lowest", x.faults(0, 0), 0);
            check.due("the highest", x.faults(1, 0), 4);
        });
        the.test("`frame`: from 0", () -> {
            CelHouse x = with(1, 24);
            x.expose(0, 3, 23, NONE);
            check.noPoints("frame", frame -> x.faults(0, frame), -1, 24);
            check.due("the first", x.faults(0, 0), 0);
            check.due("the last", x.faults(0, 23), 4);
        });
        the.test("Returns the sum, as told", () -> {
            CelHouse x = with(1, 3);
            check.due("none", x.faults(0, 1), 0);
            x.key();
            tellSheet(x, 3, 0, 1, 0);
            check.due("all", x.faults(0, 1), 7);
        });
        the.test("Throws `IndexOutOfBoundsException` if there is no such scene or frame", () -> {
            CelHouse x = new CelHouse();
            check.noPoint("without scenes", () -> x.faults(0, 0));
            x.scene(2, 0);
            check.noPoint("no scene", () -> x.faults(1, 0));
            check.noPoint("no frame", () -> x.faults(0, 2));
            check.noPoint("neither", () -> x.faults(-1, -1));
        });
    }

    private void ofHours() {
        the.in("Promise 33");
        the.test("Returns when a hand is done", () -> {
            CelHouse x = with(2, 1);
            x.stroke(0, 1, 0, 0, 0);
            x.hand(1);
            x.hand(1);
            check.due("two strokes", x.hours(0), 2);
            check.due("one", x.hours(1), 1);
            x.key();
            x.stroke(2, 1, 0, 0, 0);
            check.due("one more", x.hours(1), 2);
        });
        the.test("`hand`: its number", () -> {
            CelHouse x = with(1, 1);
            x.hand(1);
            x.hand(1);
            check.noPoints("hand", x::hours, -1, 2, 3, 4);
            check.due("the lowest", x.hours(0), 1);
            check.due("the highest", x.hours(1), 0);
        });
        the.test("Returns the hours", () -> {
            CelHouse x = new CelHouse();
            x.hand(1);
            check.due("without keys", x.hours(0), 0);
            for (int key = 0; key < 16; key++) {
                x.key();
                for (int name = 0; name < 8; name++) {
                    x.stroke(key, name, 0, 0, 0);
                }
            }
            check.due("the most", x.hours(0), 128);
        });
        the.test("Throws `IndexOutOfBoundsException` if there is no such hand", () -> {
            CelHouse x = with(1, 1);
            check.noPoint("without hands, though a key is to be drawn", () -> x.hours(0));
            x.hand(1);
            check.noPoint("behind the last one", () -> x.hours(1));
        });
    }

    private void ofFilm() {
        the.in("Promise 34");
        the.test("Returns which scene, and frame of it, a frame of the film is", () -> {
            CelHouse x = with(1, 2);
            x.scene(2, 0);
            x.splice(1);
            check.due("the first one of a scene", x.film(0), 100);
            check.due("the next one", x.film(1), 101);
            x.splice(0);
            check.due("of another scene", x.film(2), 0);
        });
        the.test("`frame`: from 0", () -> {
            CelHouse x = with(1, 2);
            x.scene(3, 0);
            x.splice(1);
            x.splice(0);
            check.noPoints("frame", x::film, -1, 5, 100, 101);
            check.due("the first", x.film(0), 100);
            check.due("the last of the first scene", x.film(2), 102);
            check.due("the first of the last scene", x.film(3), 0);
            check.due("the last", x.film(4), 1);
        });
        the.test("Returns 100 times the scene, and the frame, together", () -> {
            CelHouse x = new CelHouse();
            for (int i = 0; i < 6; i++) {
                x.scene(24, 0);
            }
            x.splice(5);
            x.splice(0);
            check.due("the last frame of the last scene", x.film(23), 523);
            check.due("the first frame of the first scene", x.film(24), 0);
        });
        the.test("Throws `IndexOutOfBoundsException` if there is no such frame", () -> {
            CelHouse x = with(1, 2);
            check.noPoint("without scenes in it", () -> x.film(0));
            x.splice(0);
            check.noPoint("behind the last one", () -> x.film(2));
            check.noPoint("ahead of the first one", () -> x.film(-1));
            x.cut();
            check.noPoint("after a cut", () -> x.film(0));
        });
    }
}
