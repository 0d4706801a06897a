/** The sentences on palettes, scenes and sheets: those of "Palettes, scenes, sheets", and of the promises 10 to 15 and 25. */
final class SheetEdges {
    private static final int NONE = CelHouse.NONE, HOLD = CelHouse.HOLD, CYCLE = CelHouse.CYCLE;

    private final Sentences the;
    private final Check check;

    SheetEdges(Sentences sentences, Check complaints) {
        the = sentences;
        check = complaints;
    }

    void tell() {
        ofPalettesAndScenes();
        ofSheets();
        ofVoices();
        ofColour();
        ofScene();
        ofExpose();
        ofVoice();
        ofMouth();
        ofSpeaks();
        ofHas();
    }

    /** Keys, and a scene 0. */
    private static CelHouse with(int keys, int frames) {
        CelHouse x = new CelHouse();
        for (int i = 0; i < keys; i++) {
            x.key();
        }
        x.scene(frames, 0);
        return x;
    }

    private void ofPalettesAndScenes() {
        the.in("Palettes, scenes, sheets");
        the.test("A palette, 0 to 3, has for each colour name a colour, 1 to 99, at first the name and 1", () -> {
            CelHouse x = new CelHouse();
            for (int palette = 0; palette < 4; palette++) {
                for (int name = 0; name < 8; name++) {
                    check.due("at first " + palette + ", " + name, x.colour(palette, name, 99), name + 1);
                    check.due("the greatest " + palette + ", " + name, x.colour(palette, name, 1), 99);
                }
            }
            check.due("the least", x.colour(0, 0, 50), 1);
            check.due("the least of the last", x.colour(3, 7, 50), 1);
        });
        the.test("Scenes are numbered from 0, at most 6: of 1 to 24 frames, in a palette", () -> {
            CelHouse x = new CelHouse();
            x.key();
            x.stroke(0, 0, 0, 0, 7);
            for (int i = 0; i < 6; i++) {
                check.due("a scene", x.scene(i % 2 == 0 ? 1 : 24, i % 4), i);
                x.expose(i, 0, 0, 0);
            }
            check.noState("one too many", () -> x.scene(1, 0));
            check.due("the only frame", x.has(4, 0, 0), 0);
            check.noPoint("behind the only frame", () -> x.has(4, 0, 1));
            check.due("the last frame of 24", x.has(5, 0, 23), 0);
            check.noPoint("behind the last frame", () -> x.has(5, 0, 24));
            x.colour(1, 7, 44);
            check.due("in the palette 0", x.seen(0, 0, 0, 0), 8);
            check.due("in the palette 1", x.seen(1, 0, 0, 0), 44);
            check.due("in the palette 1, too", x.seen(5, 23, 0, 0), 44);
        });
        the.test("A scene has the levels 0 to 3", () -> {
            CelHouse x = with(4, 2);
            for (int level = 0; level < 4; level++) {
                x.expose(0, level, 1, level);
            }
            for (int level = 0; level < 4; level++) {
                check.due("a level's own sheet", Looks.row(x, 0, level, 2), "-" + level);
            }
            check.noPoint("a level 4", () -> x.has(0, 4, 0));
            check.noPoint("a level -1", () -> x.has(0, -1, 0));
        });
    }

    private void ofSheets() {
        the.test("nothing new, as at first, which is a hold: what the frame ahead has", () -> {
            CelHouse x = with(2, 24);
            check.due("at first", Looks.row(x, 0, 0, 24), "-".repeat(24));
            x.expose(0, 0, 0, 0);
            check.due("held to the end", Looks.row(x, 0, 0, 24), "0".repeat(24));
            x.expose(0, 0, 23, 1);
            check.due("up to the next one", Looks.row(x, 0, 0, 24), "0".repeat(23) + "1");
            x.expose(0, 0, 23, HOLD);
            check.due("a hold that is told", Looks.row(x, 0, 0, 24), "0".repeat(24));
        });
        the.test("or blank", () -> {
            CelHouse x = with(1, 4);
            x.expose(0, 0, 0, 0);
            x.expose(0, 0, 1, NONE);
            check.due("blank, and held", Looks.row(x, 0, 0, 4), "0---");
            x.expose(0, 0, 0, NONE);
            check.due("blank at the begin", Looks.row(x, 0, 0, 4), "----");
        });
        the.test("or a drawing", () -> {
            CelHouse x = with(15, 16);
            x.between(0, 0, 0, 1);
            for (int i = 0; i < 16; i++) {
                x.expose(0, 2, i, 15 - i);
            }
            check.due("each drawing", Looks.row(x, 0, 2, 16), "fedcba9876543210");
        });
        the.test("or a cycle of k: what the frame k ahead has", () -> {
            CelHouse x = with(3, 8);
            for (int i = 0; i < 3; i++) {
                x.expose(0, 0, i, i);
            }
            for (int i = 3; i < 8; i++) {
                x.expose(0, 0, i, CYCLE + 3);
            }
            check.due("a cycle of 3, again and again", Looks.row(x, 0, 0, 8), "01201201");
            x.expose(0, 0, 3, CYCLE + 1);
            check.due("a cycle of 1 is as a hold", Looks.row(x, 0, 0, 8), "01221221");
            x.expose(0, 0, 1, HOLD);
            check.due("a cycle to a hold", Looks.row(x, 0, 0, 8), "00220220");
            x.expose(0, 0, 5, HOLD);
            check.due("a hold of a cycle", Looks.row(x, 0, 0, 8), "00220020");
            x.expose(0, 0, 4, NONE);
            check.due("a cycle to a blank, and one past it", Looks.row(x, 0, 0, 8), "0022--2-");
        });
        the.test("What would be ahead of the frame 0 is blank", () -> {
            CelHouse x = with(1, 24);
            x.expose(0, 0, 0, 0);
            x.expose(0, 0, 23, CYCLE + 23);
            check.due("a cycle to the frame 0", x.has(0, 0, 23), 0);
            x.expose(0, 0, 23, CYCLE + 24);
            check.due("a cycle to the frame -1", x.has(0, 0, 23), NONE);
            x.expose(0, 0, 5, CYCLE + 6);
            check.due("a cycle to the frame -1, held", Looks.row(x, 0, 0, 8), "00000---");
            x.expose(0, 0, 5, CYCLE + 24);
            check.due("a cycle far ahead", x.has(0, 0, 5), NONE);
            x.expose(0, 0, 5, CYCLE + 5);
            x.expose(0, 0, 0, CYCLE + 1);
            check.due("a cycle at the frame 0", x.has(0, 0, 0), NONE);
            check.due("a cycle to it", x.has(0, 0, 5), NONE);
            x.expose(0, 0, 0, HOLD);
            check.due("a hold at the frame 0", x.has(0, 0, 0), NONE);
        });
    }

    /** Two sounds with mouths, and a level 1 that speaks. */
    private static CelHouse speaking(int frames) {
        CelHouse x = with(2, frames);
        x.mouth(0, 0);
        x.mouth(7, 1);
        x.speaks(0, 1);
        return x;
    }

    private void ofVoices() {
        the.test("A voice is told for frames of a scene: a sound, 0 to 7, or silence, from that frame on to the next one that is told", () -> {
            CelHouse x = speaking(8);
            x.voice(0, 1, 0);
            check.due("to the end", Looks.row(x, 0, 1, 8), "00000000");
            x.voice(0, 7, 7);
            check.due("up to the last frame", Looks.row(x, 0, 1, 8), "00000011");
            x.voice(0, 4, NONE);
            check.due("silence that is told", Looks.row(x, 0, 1, 8), "000---11");
            x.voice(0, 4, 7);
            check.due("in place of it", Looks.row(x, 0, 1, 8), "00011111");
            x.scene(8, 0);
            x.speaks(1, 1);
            check.due("another scene", Looks.row(x, 1, 1, 8), "--------");
        });
        the.test("silence at first", () -> {
            CelHouse x = speaking(3);
            for (int frame = 2; frame >= 0; frame--) {
                check.due("at first", x.voice(0, frame, 0), NONE);
            }
            CelHouse y = speaking(4);
            y.voice(0, 3, 0);
            check.due("ahead of what is told", Looks.row(y, 0, 1, 4), "--00");
        });
        the.test("A mouth is told for a sound: a drawing, or none, as at first", () -> {
            CelHouse x = with(1, 2);
            for (int sound = 0; sound < 8; sound++) {
                check.due("none at first", x.mouth(sound, 0), NONE);
                check.due("a drawing", x.mouth(sound, NONE), 0);
                check.due("none that is told", x.mouth(sound, sound % 2 - 1), NONE);
            }
            check.due("each sound's own", x.mouth(6, 0), NONE);
            check.due("each sound's own, too", x.mouth(7, 0), 0);
        });
        the.test("A level can be one of the voice, in place of its sheet", () -> {
            CelHouse x = speaking(3);
            x.voice(0, 0, 0);
            x.expose(0, 1, 0, 1);
            x.expose(0, 2, 0, 1);
            check.due("the voice", Looks.row(x, 0, 1, 3), "000");
            check.due("another level has its sheet", Looks.row(x, 0, 2, 3), "111");
            x.speaks(0, 1);
            check.due("the sheet", Looks.row(x, 0, 1, 3), "111");
            for (int level = 0; level < 4; level++) {
                x.speaks(0, level);
                check.due("each level", Looks.row(x, 0, level, 3), "000");
            }
        });
        the.test("it has at a frame the mouth of the sound of the next frame (of the last one at the last one)", () -> {
            CelHouse x = speaking(4);
            x.voice(0, 2, 0);
            x.voice(0, 3, 7);
            check.due("of the next frame", Looks.row(x, 0, 1, 4), "-011");
            x.voice(0, 0, 7);
            x.voice(0, 1, NONE);
            check.due("not of its own", Looks.row(x, 0, 1, 4), "-011");
            x.scene(1, 0);
            x.speaks(1, 0);
            x.voice(1, 0, 7);
            check.due("of the only one at the only one", x.has(1, 0, 0), 1);
            x.scene(24, 0);
            x.speaks(2, 3);
            x.voice(2, 23, 7);
            check.due("of the last one of 24", Looks.row(x, 2, 3, 24), "-".repeat(22) + "11");
        });
        the.test("blank in silence, or without a mouth", () -> {
            CelHouse x = speaking(3);
            x.expose(0, 1, 0, 1);
            check.due("in silence", Looks.row(x, 0, 1, 3), "---");
            x.voice(0, 0, 3);
            check.due("without a mouth", Looks.row(x, 0, 1, 3), "---");
            x.mouth(3, 1);
            check.due("with a mouth", Looks.row(x, 0, 1, 3), "111");
            x.mouth(3, NONE);
            check.due("without one again", Looks.row(x, 0, 1, 3), "---");
            x.mouth(3, 0);
            x.voice(0, 0, NONE);
            check.due("in silence again", Looks.row(x, 0, 1, 3), "---");
        });
    }

    private void ofColour() {
        the.in("Promise 10");
        the.test("Sets a colour of a palette", () -> {
            CelHouse x = new CelHouse();
            x.colour(2, 5, 77);
            for (int palette = 0; palette < 4; palette++) {
                for (int name = 0; name < 8; name++) {
                    int due = palette == 2 && name == 5 ? 77 : name + 1;
                    check.due("colour " + palette + ", " + name, x.colour(palette, name, 9), due);
                }
            }
        });
        the.test("`palette`: 0 to 3", () -> {
            CelHouse x = new CelHouse();
            check.noPoints("palette", palette -> x.colour(palette, 0, 50), -1, 4);
            x.colour(0, 0, 50);
            x.colour(3, 0, 60);
            check.due("0", x.colour(0, 0, 1), 50);
            check.due("3", x.colour(3, 0, 1), 60);
        });
        the.test("`name`: 0 to 7", () -> {
            CelHouse x = new CelHouse();
            check.noPoints("name", name -> x.colour(1, name, 50), -1, 8);
            check.due("0", x.colour(1, 0, 50), 1);
            check.due("7", x.colour(1, 7, 50), 8);
            check.due("the first one of the next palette", x.colour(2, 0, 50), 1);
            check.due("the last one of the palette ahead", x.colour(0, 7, 50), 8);
        });
        the.test("`colour`: 1 to 99", () -> {
            CelHouse x = new CelHouse();
            check.noRanges("colour", colour -> x.colour(0, 0, colour), -1, 0, 100);
            check.due("as before", x.colour(0, 0, 99), 1);
            check.due("99", x.colour(0, 0, 1), 99);
            check.due("1", x.colour(0, 0, 2), 1);
        });
        the.test("Returns the colour before", () -> {
            CelHouse x = new CelHouse();
            check.due("at first", x.colour(3, 6, 6), 7);
            check.due("then", x.colour(3, 6, 6), 6);
            check.due("the same", x.colour(3, 6, 8), 6);
        });
        the.test("Throws `IndexOutOfBoundsException` if there is no such palette or colour name", () -> {
            CelHouse x = new CelHouse();
            check.noPoint("no palette", () -> x.colour(4, 0, 1));
            check.noPoint("no colour name", () -> x.colour(0, 8, 1));
            check.noPoint("no palette, no colour", () -> x.colour(-1, 0, 0));
            check.noPoint("no colour name, no colour", () -> x.colour(0, -1, 100));
        });
        the.test("Throws `IllegalArgumentException` if colour is out of range", () -> {
            CelHouse x = new CelHouse();
            check.noRange("too small", () -> x.colour(3, 7, 0));
            check.noRange("too large", () -> x.colour(3, 7, 100));
            check.due("as before", x.colour(3, 7, 1), 8);
        });
    }

    private void ofScene() {
        the.in("Promise 11");
        the.test("Makes a scene", () -> {
            CelHouse x = with(1, 2);
            x.expose(0, 0, 0, 0);
            x.voice(0, 0, 0);
            x.speaks(0, 1);
            x.peg(NONE);
            x.move(0, 0, 4, 4);
            x.hang(0, 0, 0, 2);
            x.hang(0, 4, 0, 2);
            x.shoot(0);
            x.scene(2, 0);
            check.due("blank", Looks.row(x, 1, 0, 2), "--");
            check.due("not moved", x.moved(1, 0, 0, true), 0);
            check.due("not shot", x.stale(1), 2);
            check.due("silent", x.voice(1, 0, 1), NONE);
            check.due("of its sheets", x.speaks(1, 1), true);
            check.due("which hold", x.expose(1, 0, 0, 0), HOLD);
        });
        the.test("`frames`: 1 to 24", () -> {
            CelHouse x = new CelHouse();
            check.noRanges("frames", frames -> x.scene(frames, 0), -1, 0, 25);
            check.due("1", x.scene(1, 0), 0);
            check.due("24", x.scene(24, 0), 1);
            check.due("one frame", x.stale(0), 1);
            check.due("24 frames", x.stale(1), 24);
        });
        the.test("`palette`: 0 to 3", () -> {
            CelHouse x = new CelHouse();
            check.noPoints("palette", palette -> x.scene(1, palette), -1, 4);
            x.key();
            x.stroke(0, 0, 0, 0, 0);
            x.colour(0, 0, 50);
            x.colour(3, 0, 60);
            check.due("0", x.scene(1, 0), 0);
            check.due("3", x.scene(1, 3), 1);
            x.expose(0, 0, 0, 0);
            x.expose(1, 0, 0, 0);
            check.due("in 0", x.seen(0, 0, 0, 0), 50);
            check.due("in 3", x.seen(1, 0, 0, 0), 60);
        });
        the.test("Returns its number", () -> {
            CelHouse x = new CelHouse();
            for (int i = 0; i < 6; i++) {
                check.due("scene", x.scene(3, 1), i);
            }
        });
        the.test("Throws `IndexOutOfBoundsException` if there is no such palette", () -> {
            CelHouse x = new CelHouse();
            check.noPoint("no palette", () -> x.scene(1, 4));
            check.noPoint("no palette, no frames", () -> x.scene(0, 4));
            check.noPoint("no palette, too many frames", () -> x.scene(25, -1));
        });
        the.test("Throws `IllegalArgumentException` if frames is out of range", () -> {
            CelHouse x = new CelHouse();
            check.noRange("none", () -> x.scene(0, 3));
            check.noRange("too many", () -> x.scene(25, 3));
            check.due("none was made", x.scene(1, 3), 0);
        });
        the.test("Throws `IllegalStateException` if there are 6", () -> {
            CelHouse x = new CelHouse();
            for (int i = 0; i < 5; i++) {
                x.scene(1, 0);
            }
            check.due("the sixth", x.scene(1, 0), 5);
            check.noState("the seventh", () -> x.scene(1, 0));
            check.noRange("the seventh without frames", () -> x.scene(0, 0));
            check.noPoint("the seventh without a palette", () -> x.scene(1, 4));
            check.noPoint("it is not there", () -> x.stale(6));
        });
    }

    private void ofExpose() {
        the.in("Promise 12");
        the.test("Tells the sheet of a level at a frame", () -> {
            CelHouse x = with(2, 3);
            x.scene(3, 0);
            x.expose(0, 1, 1, 1);
            check.due("there, and held", Looks.row(x, 0, 1, 3), "-11");
            check.due("not the level under it", Looks.row(x, 0, 0, 3), "---");
            check.due("not the level over it", Looks.row(x, 0, 2, 3), "---");
            check.due("not another scene", Looks.row(x, 1, 1, 3), "---");
        });
        the.test("`scene`: its number", () -> {
            CelHouse x = with(1, 1);
            x.scene(1, 0);
            check.noPoints("scene", scene -> x.expose(scene, 0, 0, 0), -1, 2, 5, 6);
            x.expose(1, 0, 0, 0);
            check.due("the highest", x.has(1, 0, 0), 0);
            check.due("not the lowest", x.has(0, 0, 0), NONE);
            x.expose(0, 0, 0, 0);
            check.due("the lowest", x.has(0, 0, 0), 0);
        });
        the.test("`level`: 0 to 3", () -> {
            CelHouse x = with(2, 2);
            check.noPoints("level", level -> x.expose(0, level, 0, 0), -1, 4);
            x.expose(0, 0, 0, 0);
            x.expose(0, 3, 0, 1);
            check.due("0", x.has(0, 0, 0), 0);
            check.due("3", x.has(0, 3, 0), 1);
        });
        the.test("`frame`: from 0", () -> {
            CelHouse x = with(2, 3);
            check.noPoints("frame", frame -> x.expose(0, 1, frame, 0), -1, 3);
            x.expose(0, 1, 0, 0);
            x.expose(0, 1, 2, 1);
            check.due("the first and the last", Looks.row(x, 0, 1, 3), "001");
            check.due("the next level", Looks.row(x, 0, 2, 3), "---");
            check.due("the level ahead", Looks.row(x, 0, 0, 3), "---");
        });
        the.test("`what`: a drawing, NONE for blank, HOLD, or 100 to 123 for a cycle of 1 to 24", () -> {
            CelHouse x = with(16, 2);
            for (int what : new int[] {0, 15, NONE, HOLD, 100, 123}) {
                x.expose(0, 0, 1, what);
                check.due("it is told", x.expose(0, 0, 1, 7), what);
            }
            check.noRanges("what", what -> x.expose(0, 0, 1, what), -3, 16, 98, 99, 124, 125);
            check.due("as before", x.expose(0, 0, 1, 0), 7);
        });
        the.test("Returns what was told there", () -> {
            CelHouse x = with(2, 3);
            check.due("nothing new at first", x.expose(0, 0, 0, 1), HOLD);
            check.due("a drawing", x.expose(0, 0, 0, NONE), 1);
            check.due("blank", x.expose(0, 0, 0, 123), NONE);
            check.due("a cycle", x.expose(0, 0, 0, HOLD), 123);
            check.due("a hold", x.expose(0, 0, 0, 0), HOLD);
            check.due("not what it has there", x.expose(0, 0, 2, 0), HOLD);
            x.speaks(0, 0);
            check.due("the sheet's of a level that speaks", x.expose(0, 0, 2, 1), 0);
        });
        the.test("Throws `IndexOutOfBoundsException` if there is no such scene, level or frame, or drawing, what being 0 to 15", () -> {
            CelHouse x = new CelHouse();
            check.noPoint("without scenes", () -> x.expose(0, 0, 0, NONE));
            x.scene(2, 0);
            check.noPoint("without drawings", () -> x.expose(0, 0, 0, 0));
            x.key();
            check.noPoint("a drawing behind the last one", () -> x.expose(0, 0, 0, 1));
            check.noPoint("a drawing 15", () -> x.expose(0, 0, 0, 15));
            check.noPoint("no level", () -> x.expose(0, 4, 0, 0));
            check.noPoint("no frame", () -> x.expose(0, 0, 2, 0));
            check.noPoint("no scene, what is none of these", () -> x.expose(1, 0, 0, 16));
            check.noPoint("no level, what is none of these", () -> x.expose(0, -1, 0, 99));
            check.noPoint("no frame, what is none of these", () -> x.expose(0, 0, -1, 124));
            check.due("as before", x.expose(0, 0, 0, 0), HOLD);
        });
        the.test("Throws `IllegalArgumentException` if what is none of these", () -> {
            CelHouse x = with(16, 2);
            check.noRange("a drawing 16", () -> x.expose(0, 0, 0, 16));
            check.noRange("a cycle of 0", () -> x.expose(0, 0, 0, CYCLE));
            check.noRange("a cycle of 25", () -> x.expose(0, 0, 0, CYCLE + 25));
            check.noRange("below HOLD", () -> x.expose(0, 0, 0, HOLD - 1));
            check.due("a cycle of 24, though there are 2 frames", x.expose(0, 0, 0, CYCLE + 24), HOLD);
        });
    }

    private void ofVoice() {
        the.in("Promise 13");
        the.test("Tells the voice of a scene at a frame", () -> {
            CelHouse x = with(0, 4);
            x.scene(4, 0);
            x.voice(0, 2, 5);
            check.due("there", x.voice(0, 2, 5), 5);
            check.due("not ahead", x.voice(0, 1, 4), NONE);
            check.due("still there", x.voice(0, 2, 5), 5);
            check.due("not another scene", x.voice(1, 2, 5), NONE);
        });
        the.test("`scene`: its number", () -> {
            CelHouse x = with(0, 1);
            x.scene(1, 0);
            check.noPoints("scene", scene -> x.voice(scene, 0, 0), -1, 2, 5, 6);
            check.due("the highest", x.voice(1, 0, 3), NONE);
            check.due("the lowest", x.voice(0, 0, 4), NONE);
            check.due("the highest then", x.voice(1, 0, 3), 3);
        });
        the.test("`frame`: from 0", () -> {
            CelHouse x = with(0, 3);
            check.noPoints("frame", frame -> x.voice(0, frame, 0), -1, 3);
            check.due("the last", x.voice(0, 2, 1), NONE);
            check.due("the first", x.voice(0, 0, 2), NONE);
            check.due("the last then", x.voice(0, 2, 1), 1);
            check.due("the first then", x.voice(0, 0, 1), 2);
        });
        the.test("`sound`: 0 to 7, or NONE for silence", () -> {
            CelHouse x = with(0, 1);
            check.noPoints("sound", sound -> x.voice(0, 0, sound), -2, 8);
            check.due("0", x.voice(0, 0, 0), NONE);
            check.due("7", x.voice(0, 0, 7), 0);
            check.due("silence", x.voice(0, 0, NONE), 7);
            check.due("silence then", x.voice(0, 0, 0), NONE);
        });
        the.test("Returns the sound that was there, told or not", () -> {
            CelHouse x = with(0, 24);
            check.due("silence, not told", x.voice(0, 0, 6), NONE);
            check.due("not told, far behind", x.voice(0, 23, 5), 6);
            check.due("told", x.voice(0, 23, 4), 5);
            check.due("not told, between", x.voice(0, 22, NONE), 6);
            check.due("silence that is told", x.voice(0, 22, NONE), NONE);
            check.due("behind it, told", x.voice(0, 23, 3), 4);
        });
        the.test("Throws `IndexOutOfBoundsException` if there is no such scene, frame or sound", () -> {
            CelHouse x = new CelHouse();
            check.noPoint("without scenes", () -> x.voice(0, 0, NONE));
            x.scene(1, 0);
            check.noPoint("no scene", () -> x.voice(1, 0, NONE));
            check.noPoint("no frame", () -> x.voice(0, 1, NONE));
            check.noPoint("no sound", () -> x.voice(0, 0, 8));
            check.noPoint("none of all", () -> x.voice(1, 1, 8));
        });
    }

    private void ofMouth() {
        the.in("Promise 14");
        the.test("Tells the mouth of a sound", () -> {
            CelHouse x = speaking(2);
            x.voice(0, 0, 7);
            x.mouth(7, 0);
            check.due("the mouth", Looks.row(x, 0, 1, 2), "00");
            x.mouth(6, 1);
            check.due("another sound's does not matter", Looks.row(x, 0, 1, 2), "00");
        });
        the.test("`sound`: 0 to 7", () -> {
            CelHouse x = with(2, 1);
            check.noPoints("sound", sound -> x.mouth(sound, 0), -1, 8);
            x.mouth(0, 0);
            x.mouth(7, 1);
            check.due("0", x.mouth(0, 0), 0);
            check.due("7", x.mouth(7, 0), 1);
        });
        the.test("`drawing`: a drawing, or NONE", () -> {
            CelHouse x = with(3, 1);
            x.between(0, 1, 1, 2);
            check.noPoints("drawing", drawing -> x.mouth(0, drawing), -2, 4, 15, 16);
            x.mouth(0, 0);
            check.due("the lowest", x.mouth(0, 3), 0);
            check.due("the highest, an in-between", x.mouth(0, NONE), 3);
            check.due("none", x.mouth(0, 1), NONE);
        });
        the.test("Returns the one before", () -> {
            CelHouse x = with(2, 1);
            x.mouth(4, 1);
            check.due("one", x.mouth(4, 0), 1);
            check.due("the next one", x.mouth(4, 0), 0);
            check.due("the same", x.mouth(4, 1), 0);
        });
        the.test("NONE for none", () -> {
            CelHouse x = with(1, 1);
            check.due("at first", x.mouth(5, NONE), NONE);
            check.due("told", x.mouth(5, 0), NONE);
        });
        the.test("Throws `IndexOutOfBoundsException` if there is no such sound, or drawing, that not being NONE", () -> {
            CelHouse x = new CelHouse();
            check.noPoint("without drawings", () -> x.mouth(0, 0));
            check.due("NONE without drawings", x.mouth(0, NONE), NONE);
            x.key();
            check.noPoint("no sound", () -> x.mouth(8, NONE));
            check.noPoint("no sound -1", () -> x.mouth(-1, 0));
            check.noPoint("no drawing", () -> x.mouth(0, 1));
            check.noPoint("no drawing HOLD", () -> x.mouth(0, HOLD));
            check.due("as before", x.mouth(0, 0), NONE);
        });
    }

    private void ofSpeaks() {
        the.in("Promise 15");
        the.test("Lets a level be one of the voice, or of its sheet", () -> {
            CelHouse x = speaking(2);
            x.scene(2, 0);
            x.voice(0, 0, 7);
            x.voice(1, 0, 7);
            check.due("of the voice", Looks.row(x, 0, 1, 2), "11");
            check.due("not of another scene", Looks.row(x, 1, 1, 2), "--");
            x.speaks(0, 1);
            check.due("of its sheet", Looks.row(x, 0, 1, 2), "--");
        });
        the.test("`scene`: its number", () -> {
            CelHouse x = with(0, 1);
            x.scene(1, 0);
            check.noPoints("scene", scene -> x.speaks(scene, 0), -1, 2, 5, 6);
            check.due("the lowest", x.speaks(0, 0), true);
            check.due("the highest", x.speaks(1, 0), true);
        });
        the.test("`level`: 0 to 3", () -> {
            CelHouse x = with(0, 1);
            check.noPoints("level", level -> x.speaks(0, level), -1, 4);
            check.due("0", x.speaks(0, 0), true);
            check.due("3", x.speaks(0, 3), true);
        });
        the.test("Returns whether it is one of the voice then", () -> {
            CelHouse x = with(0, 1);
            check.due("once", x.speaks(0, 2), true);
            check.due("another level", x.speaks(0, 1), true);
            check.due("twice", x.speaks(0, 2), false);
            check.due("once more", x.speaks(0, 2), true);
        });
        the.test("Throws `IndexOutOfBoundsException` if there is no such scene or level", () -> {
            CelHouse x = new CelHouse();
            check.noPoint("without scenes", () -> x.speaks(0, 0));
            x.scene(1, 0);
            check.noPoint("no scene", () -> x.speaks(1, 0));
            check.noPoint("no level", () -> x.speaks(0, 4));
            check.due("as before", x.speaks(0, 3), true);
        });
    }

    private void ofHas() {
        the.in("Promise 25");
        the.test("Returns what a level has at a frame", () -> {
            CelHouse x = speaking(2);
            x.expose(0, 0, 1, 1);
            x.voice(0, 1, 0);
            check.due("of its sheet", Looks.row(x, 0, 0, 2), "-1");
            check.due("of the voice", Looks.row(x, 0, 1, 2), "00");
        });
        the.test("`scene`: its number", () -> {
            CelHouse x = with(1, 1);
            x.scene(1, 0);
            x.expose(1, 0, 0, 0);
            check.noPoints("scene", scene -> x.has(scene, 0, 0), -1, 2, 5, 6);
            check.due("the lowest", x.has(0, 0, 0), NONE);
            check.due("the highest", x.has(1, 0, 0), 0);
        });
        the.test("`level`: 0 to 3", () -> {
            CelHouse x = with(2, 1);
            x.expose(0, 0, 0, 0);
            x.expose(0, 3, 0, 1);
            check.noPoints("level", level -> x.has(0, level, 0), -1, 4);
            check.due("0", x.has(0, 0, 0), 0);
            check.due("3", x.has(0, 3, 0), 1);
        });
        the.test("`frame`: from 0", () -> {
            CelHouse x = with(2, 5);
            x.expose(0, 0, 0, 0);
            x.expose(0, 0, 4, 1);
            check.noPoints("frame", frame -> x.has(0, 0, frame), -1, 5, 24);
            check.due("the first", x.has(0, 0, 0), 0);
            check.due("the last", x.has(0, 0, 4), 1);
        });
        the.test("Returns the drawing", () -> {
            CelHouse x = with(16, 1);
            x.expose(0, 0, 0, 15);
            check.due("the highest", x.has(0, 0, 0), 15);
            x.expose(0, 0, 0, 0);
            check.due("the lowest", x.has(0, 0, 0), 0);
        });
        the.test("NONE for blank", () -> {
            CelHouse x = with(1, 2);
            check.due("at first", x.has(0, 0, 0), NONE);
            x.expose(0, 0, 0, 0);
            x.expose(0, 0, 1, NONE);
            check.due("told", x.has(0, 0, 1), NONE);
            x.expose(0, 0, 1, 123);
            check.due("a cycle from ahead of the frame 0", x.has(0, 0, 1), NONE);
        });
        the.test("Throws `IndexOutOfBoundsException` if there is no such scene, level or frame", () -> {
            CelHouse x = new CelHouse();
            check.noPoint("without scenes", () -> x.has(0, 0, 0));
            x.scene(1, 0);
            check.noPoint("no scene", () -> x.has(1, 0, 0));
            check.noPoint("no level", () -> x.has(0, 4, 0));
            check.noPoint("no frame", () -> x.has(0, 0, 1));
        });
    }
}
