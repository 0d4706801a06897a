/** Promises 10 to 15 and 25: palettes, scenes, sheets, voices and mouths. */
public final class SheetsTest {
    private static final Check check = new Check();

    public static void main(String[] args) {
        coloursAreSet();
        scenesAreMade();
        sheetsAreTold();
        sheetsRefuse();
        holdsAndCycles();
        cyclesOfCycles();
        voicesAreTold();
        mouthsAreTold();
        levelsSpeak();
        hasRefuses();
        check.end();
    }

    private static void coloursAreSet() {
        CelHouse x = new CelHouse();
        for (int palette = 0; palette < 4; palette++) {
            for (int name = 0; name < 8; name++) {
                check.due("colour at first", x.colour(palette, name, 99 - palette), name + 1);
            }
        }
        check.due("colour then", x.colour(3, 7, 1), 96);
        check.due("colour then of another palette", x.colour(2, 7, 1), 97);
        check.due("colour again", x.colour(3, 7, 1), 1);
        check.noRange("colour(3, 7, 0)", () -> x.colour(3, 7, 0));
        check.noRange("colour(3, 7, 100)", () -> x.colour(3, 7, 100));
        check.noPoint("colour(4, 7, 100)", () -> x.colour(4, 7, 100));
        check.noPoint("colour(-1, 7, 1)", () -> x.colour(-1, 7, 1));
        check.noPoint("colour(0, 8, 0)", () -> x.colour(0, 8, 0));
        check.noPoint("colour(0, -1, 1)", () -> x.colour(0, -1, 1));
        check.due("colour after refusals", x.colour(3, 7, 2), 1);
    }

    private static void scenesAreMade() {
        CelHouse x = new CelHouse();
        check.noRange("scene(0, 0)", () -> x.scene(0, 0));
        check.noRange("scene(25, 3)", () -> x.scene(25, 3));
        check.noPoint("scene(0, 4)", () -> x.scene(0, 4));
        check.noPoint("scene(1, -1)", () -> x.scene(1, -1));
        for (int i = 0; i < 6; i++) {
            check.due("scene", x.scene(i == 0 ? 24 : i, i % 4), i);
        }
        check.noState("scene of 7", () -> x.scene(1, 0));
        check.noRange("scene of 7 without frames", () -> x.scene(0, 0));
        check.noPoint("scene of 7 without palette", () -> x.scene(0, 9));
        check.due("the last frame of 24", x.has(0, 3, 23), -1);
        check.noPoint("the frame behind 24", () -> x.has(0, 3, 24));
        check.due("the last frame of 5", x.has(5, 0, 4), -1);
        check.noPoint("the frame behind 5", () -> x.has(5, 0, 5));
    }

    private static void sheetsAreTold() {
        CelHouse x = new CelHouse();
        x.key();
        x.key();
        x.scene(3, 0);
        check.due("told at first", x.expose(0, 1, 2, 1), -2);
        check.due("told then", x.expose(0, 1, 2, -1), 1);
        check.due("told blank", x.expose(0, 1, 2, 100), -1);
        check.due("told a cycle", x.expose(0, 1, 2, 123), 100);
        check.due("told a long cycle", x.expose(0, 1, 2, -2), 123);
        check.due("told a hold", x.expose(0, 1, 2, 0), -2);
        check.due("another level", x.expose(0, 2, 2, 0), -2);
        check.due("another frame", x.expose(0, 1, 1, 0), -2);
        check.due("it is had there", x.has(0, 1, 2), 0);
        check.due("not ahead on another level", x.has(0, 2, 1), -1);
    }

    private static void sheetsRefuse() {
        CelHouse x = new CelHouse();
        x.key();
        x.scene(3, 0);
        check.noPoint("expose(1, ..)", () -> x.expose(1, 0, 0, 0));
        check.noPoint("expose(-1, ..)", () -> x.expose(-1, 0, 0, 99));
        check.noPoint("expose(0, 4, ..)", () -> x.expose(0, 4, 0, 0));
        check.noPoint("expose(0, -1, ..)", () -> x.expose(0, -1, 0, 16));
        check.noPoint("expose frame 3", () -> x.expose(0, 0, 3, 0));
        check.noPoint("expose frame -1", () -> x.expose(0, 0, -1, -9));
        check.noPoint("expose 1", () -> x.expose(0, 0, 0, 1));
        check.noPoint("expose 15", () -> x.expose(0, 0, 0, 15));
        check.noRange("expose 16", () -> x.expose(0, 0, 0, 16));
        check.noRange("expose 99", () -> x.expose(0, 0, 0, 99));
        check.noRange("expose 124", () -> x.expose(0, 0, 0, 124));
        check.noRange("expose -3", () -> x.expose(0, 0, 0, -3));
        check.due("nothing was told", x.expose(0, 0, 0, 0), -2);
    }

    private static void holdsAndCycles() {
        CelHouse x = new CelHouse();
        for (int i = 0; i < 3; i++) {
            x.key();
        }
        x.scene(10, 0);
        x.expose(0, 0, 1, 0);
        x.expose(0, 0, 3, 1);
        x.expose(0, 0, 4, 2);
        for (int frame = 5; frame < 10; frame++) {
            x.expose(0, 0, frame, 103);
        }
        check.due("a hold ahead of all, a hold, a cycle of 4", row(x, 0, 0), "-001200120");
        x.expose(0, 0, 2, -1);
        check.due("blank in it", row(x, 0, 0), "-0-12" + "0-120");
        x.expose(0, 0, 7, -2);
        check.due("a hold behind a cycle", row(x, 0, 0), "-0-12" + "0--20");
        x.expose(0, 0, 9, 110);
        check.due("a cycle ahead of the frame 0", row(x, 0, 0), "-0-12" + "0--2-");
        x.expose(0, 0, 9, 109);
        check.due("a cycle to the frame -1", row(x, 0, 0), "-0-12" + "0--2-");
        x.expose(0, 0, 0, 2);
        x.expose(0, 0, 9, 108);
        check.due("a cycle to the frame 0", row(x, 0, 0), "20-12" + "0--22");
    }

    private static void cyclesOfCycles() {
        CelHouse x = new CelHouse();
        for (int i = 0; i < 2; i++) {
            x.key();
        }
        x.scene(24, 0);
        x.expose(0, 3, 0, 0);
        x.expose(0, 3, 1, 1);
        for (int frame = 2; frame < 24; frame++) {
            x.expose(0, 3, frame, 101);
        }
        check.due("a cycle of 2", row(x, 0, 3), "010101010101010101010101");
        x.expose(0, 3, 23, 122);
        check.due("a cycle of 23", x.has(0, 3, 23), 0);
        x.expose(0, 3, 23, 123);
        check.due("a cycle of 24", x.has(0, 3, 23), -1);
    }

    private static void voicesAreTold() {
        CelHouse x = new CelHouse();
        x.scene(6, 0);
        x.scene(1, 0);
        check.due("silence at first", x.voice(0, 2, 3), -1);
        check.due("silence ahead", x.voice(0, 1, -1), -1);
        check.due("from there on", x.voice(0, 5, 0), 3);
        check.due("up to the next one", x.voice(0, 4, 7), 3);
        check.due("told before", x.voice(0, 5, -1), 0);
        check.due("told silence", x.voice(0, 5, 1), -1);
        check.due("another scene", x.voice(1, 0, 1), -1);
        check.noPoint("voice(2, ..)", () -> x.voice(2, 0, 0));
        check.noPoint("voice(-1, ..)", () -> x.voice(-1, 0, 0));
        check.noPoint("voice frame 6", () -> x.voice(0, 6, 0));
        check.noPoint("voice frame -1", () -> x.voice(0, -1, 0));
        check.noPoint("voice sound 8", () -> x.voice(0, 0, 8));
        check.noPoint("voice sound -2", () -> x.voice(0, 0, -2));
        check.due("after refusals", x.voice(0, 0, 1), -1);
    }

    private static void mouthsAreTold() {
        CelHouse x = new CelHouse();
        x.key();
        for (int sound = 0; sound < 8; sound++) {
            check.due("no mouth at first", x.mouth(sound, 0), -1);
        }
        x.between(0, 0, 0, 1);
        check.due("the mouth before", x.mouth(3, 1), 0);
        check.due("the mouth before that", x.mouth(3, -1), 1);
        check.noPoint("mouth(8, 0)", () -> x.mouth(8, 0));
        check.noPoint("mouth(-1, 0)", () -> x.mouth(-1, 0));
        check.noPoint("mouth(3, 2)", () -> x.mouth(3, 2));
        check.noPoint("mouth(3, -2)", () -> x.mouth(3, -2));
        check.due("no mouth then", x.mouth(3, 0), -1);
    }

    private static void levelsSpeak() {
        CelHouse x = new CelHouse();
        for (int i = 0; i < 3; i++) {
            x.key();
        }
        x.scene(7, 0);
        x.expose(0, 2, 0, 2);
        x.mouth(1, 0);
        x.mouth(2, 1);
        x.voice(0, 2, 1);
        x.voice(0, 4, 5);
        x.voice(0, 5, -1);
        x.voice(0, 6, 2);
        check.due("speaks(0, 2)", x.speaks(0, 2), true);
        check.due("mouths come a frame before", row(x, 0, 2), "-00--11");
        check.due("another level", row(x, 0, 1), "-------");
        x.expose(0, 2, 3, 0);
        check.due("the sheet waits", row(x, 0, 2), "-00--11");
        check.due("speaks(0, 2) again", x.speaks(0, 2), false);
        check.due("the sheet again", row(x, 0, 2), "2220000");
        x.voice(0, 0, 2);
        x.speaks(0, 2);
        x.voice(0, 1, 1);
        check.due("the voice of the next frame", row(x, 0, 2), "000--11");
        x.mouth(1, -1);
        check.due("without a mouth", row(x, 0, 2), "-----11");
        x.scene(1, 0);
        x.speaks(1, 0);
        x.voice(1, 0, 2);
        check.due("a scene of one frame", row(x, 1, 0), "1");
        check.noPoint("speaks(2, 0)", () -> x.speaks(2, 0));
        check.noPoint("speaks(-1, 0)", () -> x.speaks(-1, 0));
        check.noPoint("speaks(0, 4)", () -> x.speaks(0, 4));
        check.noPoint("speaks(0, -1)", () -> x.speaks(0, -1));
    }

    private static void hasRefuses() {
        CelHouse x = new CelHouse();
        x.scene(2, 0);
        check.noPoint("has(1, 0, 0)", () -> x.has(1, 0, 0));
        check.noPoint("has(-1, 0, 0)", () -> x.has(-1, 0, 0));
        check.noPoint("has(0, 4, 0)", () -> x.has(0, 4, 0));
        check.noPoint("has(0, -1, 0)", () -> x.has(0, -1, 0));
        check.noPoint("has(0, 0, 2)", () -> x.has(0, 0, 2));
        check.noPoint("has(0, 0, -1)", () -> x.has(0, 0, -1));
    }

    private static String row(CelHouse x, int scene, int level) {
        StringBuilder text = new StringBuilder();
        for (int frame = 0; frame < 24; frame++) {
            try {
                int drawing = x.has(scene, level, frame);
                text.append(drawing == -1 ? "-" : String.valueOf(drawing));
            } catch (IndexOutOfBoundsException behindTheScene) {
                break;
            }
        }
        return text.toString();
    }
}
