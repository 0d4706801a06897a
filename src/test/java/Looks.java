/** Pictures as texts: the left upper part, row behind row, '.' where nothing is. */
final class Looks {
    private Looks() {
    }

    static String drawing(CelHouse house, int drawing, int columns, int rows) {
        StringBuilder text = new StringBuilder();
        for (int y = 0; y < rows; y++) {
            for (int x = 0; x < columns; x++) {
                int name = house.point(drawing, x, y);
                text.append(name == CelHouse.NONE ? "." : String.valueOf(name));
            }
            text.append(y < rows - 1 ? "/" : "");
        }
        return text.toString();
    }

    /** Seen, and seen anew: a point that both tell otherwise is a '?'. */
    static String frame(CelHouse house, int scene, int frame, int columns, int rows) {
        StringBuilder text = new StringBuilder();
        for (int y = 0; y < rows; y++) {
            for (int x = 0; x < columns; x++) {
                int colour = house.seen(scene, frame, x, y);
                boolean isAlike = house.seenAnew(scene, frame, x, y) == colour;
                text.append(!isAlike ? "?" : colour == 0 ? "." : String.valueOf(colour));
            }
            text.append(y < rows - 1 ? "/" : "");
        }
        return text.toString();
    }

    /**
     * How many points of a frame have a colour; those that seenAnew tells otherwise count 1000 each.
     * It makes 384 calls, so that a house, with its 512, can be counted once.
     */
    static int count(CelHouse house, int scene, int frame) {
        int count = 0;
        for (int y = 0; y < 12; y++) {
            for (int x = 0; x < 16; x++) {
                int colour = house.seen(scene, frame, x, y);
                count += colour == 0 ? 0 : 1;
                count += house.seenAnew(scene, frame, x, y) == colour ? 0 : 1000;
            }
        }
        return count;
    }

    static void line(CelHouse house, int drawing, int name, int fromX, int fromY, int toX, int toY, int colour) {
        house.pen(fromX, fromY);
        house.stroke(drawing, name, toX, toY, colour);
    }

    static void dot(CelHouse house, int drawing, int name, int x, int y, int colour) {
        line(house, drawing, name, x, y, x, y, colour);
    }

    /** A box of the strokes 0 to 3, in one colour. */
    static void box(CelHouse house, int drawing, int left, int top, int right, int bottom, int colour) {
        line(house, drawing, 0, left, top, right, top, colour);
        house.stroke(drawing, 1, right, bottom, colour);
        house.stroke(drawing, 2, left, bottom, colour);
        house.stroke(drawing, 3, left, top, colour);
    }

    static void paint(CelHouse house, int drawing, int x, int y, int colour) {
        house.pen(x, y);
        house.paint(drawing, colour);
    }

    /** What a level has at all frames of a scene; '-' for blank, letters for the drawings from 10 on. */
    static String row(CelHouse house, int scene, int level, int frames) {
        StringBuilder text = new StringBuilder();
        for (int frame = 0; frame < frames; frame++) {
            int drawing = house.has(scene, level, frame);
            text.append(drawing == CelHouse.NONE ? '-' : Character.forDigit(drawing, 16));
        }
        return text.toString();
    }
}
