/** Promises 20 to 22 and 32 to 34: faults, hands, and the film. */
public final class FaultsHandsFilmTest {
    private static final Check check = new Check();

    public static void main(String[] args) {
        emptyDrawingsAreFaults();
        flashesAreFaults();
        flashesOfVoices();
        emptyFramesAreFaults();
        faultsRefuse();
        handsAreMade();
        handsDraw();
        handsAreFreeFirst();
        filmsAreSpliced();
        filmsAreCut();
        check.end();
    }

    private static void emptyDrawingsAreFaults() {
        CelHouse x = withDots(2);
        x.key();
        x.between(0, 1, 0, 1);
        Looks.dot(x, 1, 1, 0, 0, 0);
        x.erase(1, 0);
        x.scene(3, 0);
        x.expose(0, 0, 0, 0);
        x.expose(0, 1, 1, 2);
        check.due("a drawing with strokes", x.faults(0, 0), 0);
        check.due("a drawing without strokes", x.faults(0, 1), 1);
        x.pen(9, 9);
        x.paint(2, 1);
        check.due("a drawing with a paint alone", x.faults(0, 1), 1);
        x.expose(0, 1, 1, 3);
        check.due("a between without strokes", x.faults(0, 1), 1);
        x.stroke(1, 0, 9, 9, 1);
        check.due("a between with strokes", x.faults(0, 1), 0);
    }

    private static void flashesAreFaults() {
        CelHouse x = withDots(3);
        x.scene(7, 0);
        x.expose(0, 0, 0, 2);
        x.expose(0, 1, 1, 0);
        x.expose(0, 1, 3, 1);
        x.expose(0, 1, 4, 0);
        x.expose(0, 1, 5, -1);
        x.expose(0, 1, 6, 0);
        int[] due = {0, 0, 0, 2, 0, 2, 0};
        for (int frame = 0; frame < 7; frame++) {
            check.due("flash at " + frame, x.faults(0, frame), due[frame]);
        }
        x.expose(0, 1, 6, 2);
        check.due("unlike at both sides", x.faults(0, 5), 0);
        x.expose(0, 1, 6, -1);
        x.expose(0, 1, 4, -1);
        x.expose(0, 1, 5, 1);
        check.due("blanks at both sides", x.faults(0, 5), 0);
        x.expose(0, 1, 0, 1);
        x.expose(0, 1, 1, 0);
        check.due("the first frame", x.faults(0, 0), 0);
        x.scene(1, 0);
        x.expose(1, 0, 0, 0);
        check.due("the only frame", x.faults(1, 0), 0);
        x.scene(3, 0);
        x.expose(2, 0, 0, 0);
        x.expose(2, 0, 1, 1);
        x.expose(2, 1, 0, 1);
        x.expose(2, 0, 2, 0);
        check.due("the lowest level", x.faults(2, 1), 2);
        check.due("the last frame, where another level begins as it was", x.faults(2, 2), 0);
    }

    private static void flashesOfVoices() {
        CelHouse x = withDots(3);
        x.scene(4, 0);
        x.expose(0, 0, 0, 2);
        x.expose(0, 3, 1, 0);
        x.expose(0, 3, 2, -1);
        x.speaks(0, 3);
        check.due("a silent level", x.faults(0, 1), 0);
        x.mouth(0, 0);
        x.mouth(1, 1);
        x.voice(0, 1, 0);
        x.voice(0, 2, 1);
        x.voice(0, 3, 0);
        check.due("a flash of a mouth", x.faults(0, 1), 2);
        check.due("no flash of a mouth", x.faults(0, 2), 0);
        x.mouth(1, 0);
        check.due("another sound with the same mouth", x.faults(0, 1), 0);
    }

    private static void emptyFramesAreFaults() {
        CelHouse x = withDots(1);
        x.key();
        x.scene(4, 0);
        check.due("without drawings", x.faults(0, 0), 4);
        x.expose(0, 0, 1, 1);
        check.due("with a drawing without strokes", x.faults(0, 1), 5);
        x.expose(0, 2, 1, 0);
        x.expose(0, 2, 2, -1);
        x.expose(0, 2, 3, 0);
        check.due("all of them", x.faults(0, 2), 7);
        check.due("with a dot", x.faults(0, 3), 1);
        x.peg(-1);
        x.move(0, 0, 20, 0);
        x.hang(0, 2, 0, 1);
        check.due("with a dot out of sight", x.faults(0, 3), 5);
        x.expose(0, 1, 3, 0);
        check.due("with two dots", x.faults(0, 3), 1);
    }

    private static void faultsRefuse() {
        CelHouse x = new CelHouse();
        x.scene(2, 0);
        check.noPoint("faults(1, 0)", () -> x.faults(1, 0));
        check.noPoint("faults(-1, 0)", () -> x.faults(-1, 0));
        check.noPoint("faults(0, 2)", () -> x.faults(0, 2));
        check.noPoint("faults(0, -1)", () -> x.faults(0, -1));
    }

    private static void handsAreMade() {
        CelHouse x = new CelHouse();
        check.noRange("hand(0)", () -> x.hand(0));
        check.noRange("hand(10)", () -> x.hand(10));
        for (int i = 0; i < 4; i++) {
            check.due("hand", x.hand(i == 0 ? 9 : i), i);
        }
        check.noState("hand of 5", () -> x.hand(1));
        check.noRange("hand of 5, speed 0", () -> x.hand(0));
        check.due("hours of the last", x.hours(3), 0);
        check.noPoint("hours(4)", () -> x.hours(4));
        check.noPoint("hours(-1)", () -> x.hours(-1));
    }

    private static void handsDraw() {
        CelHouse x = withDots(1);
        x.hand(3);
        check.due("a stroke of three", x.hours(0), 1);
        x.between(0, 0, 0, 1);
        x.key();
        check.due("betweens and empty keys take no hours", x.hours(0), 1);
        Looks.dot(x, 0, 1, 3, 3, 0);
        Looks.dot(x, 0, 2, 3, 3, 0);
        check.due("three strokes", x.hours(0), 1);
        Looks.dot(x, 0, 3, 3, 3, 0);
        check.due("four strokes", x.hours(0), 2);
        Looks.dot(x, 2, 3, 3, 3, 0);
        check.due("a stroke of another key", x.hours(0), 3);
        x.approve(2, true);
        check.due("approved is drawn, too", x.hours(0), 3);
    }

    private static void handsAreFreeFirst() {
        CelHouse x = withDots(5);
        for (int name = 1; name < 8; name++) {
            Looks.dot(x, 0, name, 1, 1, 1);
        }
        Looks.dot(x, 2, 1, 1, 1, 1);
        x.hand(2);
        x.hand(1);
        // key 0 takes the hand 0 up to 4; the keys 1, 2 and 3 the hand 1 up to 1, 3 and 4; key 4 the hand 0 up to 5
        check.due("the hand 0", x.hours(0), 5);
        check.due("the hand 1", x.hours(1), 4);
        x.hand(9);
        // key 0: hand 0 up to 4; key 1: hand 1 up to 1; keys 2, 4: hand 2 up to 1, hand 2 up to 2; key 3: hand 1 up to 2
        check.due("the hand 0 of three", x.hours(0), 4);
        check.due("the hand 1 of three", x.hours(1), 2);
        check.due("the hand 2 of three", x.hours(2), 2);
        check.noPoint("hours(3)", () -> x.hours(3));
    }

    private static void filmsAreSpliced() {
        CelHouse x = new CelHouse();
        x.scene(3, 0);
        x.scene(1, 0);
        x.scene(24, 0);
        check.noPoint("splice(3)", () -> x.splice(3));
        check.noPoint("splice(-1)", () -> x.splice(-1));
        check.due("splice(2)", x.splice(2), 24);
        check.due("splice(0)", x.splice(0), 27);
        check.due("splice(1)", x.splice(1), 28);
        check.due("splice(0) again", x.splice(0), 31);
        int[][] due = {{0, 200}, {23, 223}, {24, 0}, {26, 2}, {27, 100}, {28, 0}, {30, 2}};
        for (int[] each : due) {
            check.due("film(" + each[0] + ")", x.film(each[0]), each[1]);
        }
        check.noPoint("film(31)", () -> x.film(31));
        check.noPoint("film(-1)", () -> x.film(-1));
        for (int i = 5; i <= 10; i++) {
            check.due("splice(1)", x.splice(1), 27 + i);
        }
        check.noState("splice of 11", () -> x.splice(1));
        check.noPoint("splice of 11, no scene", () -> x.splice(3));
        check.due("the last frame", x.film(36), 100);
        check.noPoint("film(37)", () -> x.film(37));
    }

    private static void filmsAreCut() {
        CelHouse x = new CelHouse();
        x.scene(3, 0);
        x.scene(2, 0);
        x.splice(0);
        x.splice(1);
        check.due("cut", x.cut(), 5);
        check.due("cut again", x.cut(), 0);
        check.noPoint("film(0)", () -> x.film(0));
        check.due("splice after cut", x.splice(1), 2);
        check.due("film(1)", x.film(1), 101);
        check.noPoint("film(2)", () -> x.film(2));
        for (int i = 2; i <= 10; i++) {
            x.splice(0);
        }
        check.noState("splice of 11 after cut", () -> x.splice(0));
    }

    /** A house of keys, each with a dot, of the name 0, in the left upper corner. */
    private static CelHouse withDots(int keys) {
        CelHouse x = new CelHouse();
        for (int i = 0; i < keys; i++) {
            x.key();
            Looks.dot(x, i, 0, 0, 0, 0);
        }
        return x;
    }
}
