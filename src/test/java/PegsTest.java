/** Promises 16 to 18 and 26: pegs, the camera, and how levels are moved. */
public final class PegsTest {
    private static final Check check = new Check();

    public static void main(String[] args) {
        pegsAreNumbered();
        placesAreTold();
        placesAreRefused();
        placesLieBetween();
        pegsCarryPegs();
        levelsHang();
        camerasAreDividedByDepth();
        hangRefuses();
        movedRefuses();
        check.end();
    }

    private static void pegsAreNumbered() {
        CelHouse x = new CelHouse();
        check.noPoint("peg(0) of none", () -> x.peg(0));
        check.noPoint("peg(-2)", () -> x.peg(-2));
        for (int i = 0; i < 6; i++) {
            check.due("peg", x.peg(i - 1), i);
            int itself = i + 1;
            check.noPoint("peg by itself", () -> x.peg(itself));
        }
        check.noState("peg of 7", () -> x.peg(-1));
        check.noState("peg of 7 by 5", () -> x.peg(5));
        check.noPoint("peg of 7 by 6", () -> x.peg(6));
    }

    private static void placesAreTold() {
        CelHouse x = onPeg();
        for (int i = 0; i < 6; i++) {
            check.due("move", x.move(0, 23 - 2 * i, i, -i), i + 1);
        }
        check.noState("a place too many", () -> x.move(0, 0, 9, 9));
        check.due("in place of one of six", x.move(0, 15, 20, -20), 6);
        check.due("the place told anew in x", x.moved(0, 0, 15, true), 20);
        check.due("the place told anew in y", x.moved(0, 0, 15, false), -20);
        check.due("told backwards", x.moved(0, 0, 0, true), 5);
        check.due("told first", x.moved(0, 0, 23, false), 0);
        check.noRange("a place too many, out of range", () -> x.move(0, 0, 21, 0));
        x.peg(-1);
        check.due("another peg", x.move(1, 3, 0, 0), 1);
        check.due("another peg, the same frame", x.move(1, 3, 1, 1), 1);
    }

    private static void placesAreRefused() {
        CelHouse x = onPeg();
        check.noPoint("move(1, ..)", () -> x.move(1, 24, 0, 0));
        check.noPoint("move(-1, ..)", () -> x.move(-1, 0, 0, 0));
        check.noRange("move frame 24", () -> x.move(0, 24, 0, 0));
        check.noRange("move frame -1", () -> x.move(0, -1, 0, 0));
        check.noRange("move x 21", () -> x.move(0, 0, 21, 0));
        check.noRange("move x -21", () -> x.move(0, 0, -21, 0));
        check.noRange("move y 21", () -> x.move(0, 0, 0, 21));
        check.noRange("move y -21", () -> x.move(0, 0, 0, -21));
        check.due("nothing was told", x.moved(0, 0, 5, true), 0);
        check.due("a first place", x.move(0, 23, -20, 20), 1);
        check.due("ahead of the first place", x.moved(0, 0, 5, true), -20);
    }

    private static void placesLieBetween() {
        CelHouse x = onPeg();
        check.due("without any told", x.moved(0, 0, 9, true), 0);
        x.move(0, 10, -5, 7);
        check.due("ahead of the first", x.moved(0, 0, 0, true), -5);
        check.due("behind the last", x.moved(0, 0, 23, false), 7);
        x.move(0, 4, 6, -1);
        // six frames between both, -11 more in x, 8 more in y
        check.due("x at 4", x.moved(0, 0, 4, true), 6);
        check.due("x at 5", x.moved(0, 0, 5, true), 5);
        check.due("x at 6", x.moved(0, 0, 6, true), 3);
        check.due("x at 7", x.moved(0, 0, 7, true), 1);
        check.due("x at 8", x.moved(0, 0, 8, true), -1);
        check.due("x at 9", x.moved(0, 0, 9, true), -3);
        check.due("x at 10", x.moved(0, 0, 10, true), -5);
        check.due("y at 5", x.moved(0, 0, 5, false), 0);
        check.due("y at 7", x.moved(0, 0, 7, false), 3);
        check.due("y at 9", x.moved(0, 0, 9, false), 5);
        x.move(0, 7, 20, 0);
        check.due("with one more between", x.moved(0, 0, 6, true), 15);
        check.due("behind the one more", x.moved(0, 0, 8, true), 12);
    }

    private static void pegsCarryPegs() {
        CelHouse x = onPeg();
        x.peg(0);
        x.peg(1);
        x.peg(0);
        x.hang(0, 1, 2, 1);
        x.hang(0, 2, 3, 1);
        x.move(0, 0, 1, 2);
        x.move(1, 0, 10, 0);
        x.move(1, 2, 20, 0);
        x.move(2, 0, -3, -3);
        x.move(3, 1, 5, 0);
        check.due("carried by two", x.moved(0, 1, 1, true), 13);
        check.due("carried by two in y", x.moved(0, 1, 1, false), -1);
        check.due("carried by one", x.moved(0, 2, 0, true), 6);
        check.due("carried by none", x.moved(0, 0, 9, true), 1);
        // each place is rounded on its own
        x.move(0, 2, 2, 2);
        x.move(1, 2, 11, 0);
        check.due("rounded apart", x.moved(0, 1, 1, true), 8);
    }

    private static void levelsHang() {
        CelHouse x = onPeg();
        x.move(0, 0, 3, 4);
        check.due("a level on a peg", x.moved(0, 0, 0, true), 3);
        check.due("a level on none", x.moved(0, 3, 0, true), 0);
        x.hang(0, 0, -1, 2);
        check.due("a level taken off", x.moved(0, 0, 0, false), 0);
        x.hang(0, 3, 0, 4);
        check.due("a depth does not divide the peg", x.moved(0, 3, 0, false), 4);
        x.scene(1, 0);
        check.due("another scene", x.moved(1, 3, 0, false), 0);
    }

    private static void camerasAreDividedByDepth() {
        CelHouse x = onPeg();
        x.peg(-1);
        x.move(0, 0, 5, 0);
        x.move(1, 0, -7, 11);
        x.hang(0, 4, 1, -77);
        x.hang(0, 1, 0, 2);
        x.hang(0, 2, -1, 3);
        x.hang(0, 3, 1, 4);
        check.due("depth 1", x.moved(0, 0, 0, true), 12);
        check.due("depth 2", x.moved(0, 1, 0, true), 8);
        check.due("depth 2 in y", x.moved(0, 1, 0, false), -5);
        check.due("depth 3", x.moved(0, 2, 0, true), 2);
        check.due("depth 3 in y", x.moved(0, 2, 0, false), -3);
        check.due("depth 4, on the camera's peg", x.moved(0, 3, 0, true), -6);
        check.due("depth 4 in y", x.moved(0, 3, 0, false), 9);
        x.hang(0, 4, -1, 0);
        check.due("no camera", x.moved(0, 0, 0, true), 5);
    }

    private static void hangRefuses() {
        CelHouse x = onPeg();
        x.move(0, 0, 3, 4);
        check.noPoint("hang(1, ..)", () -> x.hang(1, 0, 0, 1));
        check.noPoint("hang(-1, ..)", () -> x.hang(-1, 0, 0, 1));
        check.noPoint("hang level 5", () -> x.hang(0, 5, 0, 1));
        check.noPoint("hang level -1", () -> x.hang(0, -1, 0, 9));
        check.noPoint("hang peg 1", () -> x.hang(0, 0, 1, 1));
        check.noPoint("hang peg -2", () -> x.hang(0, 4, -2, 1));
        check.noRange("hang depth 0", () -> x.hang(0, 0, -1, 0));
        check.noRange("hang depth 5", () -> x.hang(0, 0, -1, 5));
        check.noPoint("hang peg 1, depth 5", () -> x.hang(0, 0, 1, 5));
        check.due("it hangs still", x.moved(0, 0, 0, true), 3);
    }

    private static void movedRefuses() {
        CelHouse x = onPeg();
        check.noPoint("moved(1, ..)", () -> x.moved(1, 0, 0, true));
        check.noPoint("moved(-1, ..)", () -> x.moved(-1, 0, 0, true));
        check.noPoint("moved level 4", () -> x.moved(0, 4, 0, true));
        check.noPoint("moved level -1", () -> x.moved(0, -1, 0, false));
        check.noPoint("moved frame 24", () -> x.moved(0, 0, 24, true));
        check.noPoint("moved frame -1", () -> x.moved(0, 0, -1, false));
    }

    /** A house with a peg, and a scene of 24 frames whose level 0 hangs on it. */
    private static CelHouse onPeg() {
        CelHouse x = new CelHouse();
        x.peg(-1);
        x.scene(24, 0);
        x.hang(0, 0, 0, 1);
        return x;
    }
}
