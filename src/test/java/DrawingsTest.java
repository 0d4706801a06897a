/** Promises 1 to 9, 23 and 24: drawings, and what is asked of them. */
public final class DrawingsTest {
    private static final Check check = new Check();

    public static void main(String[] args) {
        newHouseIsEmpty();
        keysAreNumbered();
        betweensAreNumbered();
        betweensRefuse();
        betweensGoBetween();
        betweensHangOnBetweens();
        betweensHavePaintsAndGapsOfTheFirst();
        strokesAreRounded();
        strokesKeepTheirPlace();
        strokesRefuse();
        penMoves();
        strokesAreErased();
        paintsFill();
        paintsRefuse();
        gapsClose();
        wallsStandBetweenLinesAlone();
        drawingsAreApproved();
        somethingIsAsked();
        pointsAreAsked();
        check.end();
    }

    private static void newHouseIsEmpty() {
        CelHouse x = new CelHouse();
        check.noPoint("new, of(0, 0)", () -> x.of(0, 0));
        check.noPoint("new, stale(0)", () -> x.stale(0));
        check.noPoint("new, move(0, 0, 0, 0)", () -> x.move(0, 0, 0, 0));
        check.noPoint("new, hours(0)", () -> x.hours(0));
        check.noPoint("new, film(0)", () -> x.film(0));
        check.due("new, cut()", x.cut(), 0);
        check.due("new, key()", x.key(), 0);
        check.due("new, scene(1, 0)", x.scene(1, 0), 0);
        check.due("new, peg(NONE)", x.peg(CelHouse.NONE), 0);
        check.due("new, hand(1)", x.hand(1), 0);
        check.due("NONE", CelHouse.NONE, -1);
        check.due("HOLD", CelHouse.HOLD, -2);
        check.due("CYCLE", CelHouse.CYCLE, 99);
    }

    private static void keysAreNumbered() {
        CelHouse x = new CelHouse();
        for (int i = 0; i < 16; i++) {
            check.due("key()", x.key(), i);
            check.due("strokes of a new key", x.of(i, 0), 0);
            check.due("paints of a new key", x.of(i, 1), 0);
            check.due("points of a new key", x.of(i, 3), 0);
        }
        check.noState("key() of 17", x::key);
        check.noState("key() of 17 again", x::key);
        check.noPoint("of(16, 0)", () -> x.of(16, 0));
    }

    private static void betweensAreNumbered() {
        CelHouse x = new CelHouse();
        x.key();
        for (int i = 1; i < 16; i++) {
            check.due("between", x.between(i - 1, 0, 24, 24), i);
        }
        check.noState("between of 17", () -> x.between(0, 0, 0, 1));
        check.noState("key of 17", x::key);
        check.noRange("between of 17, wrong n", () -> x.between(0, 0, 2, 1));
        check.noPoint("between of 17, no drawing", () -> x.between(16, 0, 2, 1));
    }

    private static void betweensRefuse() {
        CelHouse x = new CelHouse();
        x.key();
        check.noPoint("between(1, 0, 0, 1)", () -> x.between(1, 0, 0, 1));
        check.noPoint("between(0, 1, 0, 1)", () -> x.between(0, 1, 0, 1));
        check.noPoint("between(-1, 0, 0, 1)", () -> x.between(-1, 0, 0, 1));
        check.noPoint("between(0, -1, 9, 0)", () -> x.between(0, -1, 9, 0));
        check.noRange("between(0, 0, -1, 1)", () -> x.between(0, 0, -1, 1));
        check.noRange("between(0, 0, 2, 1)", () -> x.between(0, 0, 2, 1));
        check.noRange("between(0, 0, 0, 0)", () -> x.between(0, 0, 0, 0));
        check.noRange("between(0, 0, 0, 25)", () -> x.between(0, 0, 0, 25));
        check.due("a key after refusals", x.key(), 1);
    }

    private static void betweensGoBetween() {
        CelHouse x = new CelHouse();
        x.key();
        x.key();
        Looks.dot(x, 0, 6, 5, 5, 3);
        Looks.line(x, 0, 2, 0, 5, 9, 5, 4);
        Looks.dot(x, 0, 0, 8, 8, 5);
        Looks.line(x, 1, 2, 0, 0, 9, 10, 6);
        Looks.dot(x, 1, 6, 2, 2, 6);
        x.between(0, 1, 1, 2);
        check.due("strokes of names in both", x.of(2, 0), 2);
        // 5 and 1 * -3 / 2 are 4; the line goes from 5 - 2 to 5 + 2
        check.due("a dot between", x.point(2, 4, 4), 3);
        check.due("a line's begin between", x.point(2, 0, 3), 4);
        check.due("a line's end between", x.point(2, 9, 7), 4);
        check.due("a name of a alone", x.point(2, 8, 8), -1);
        x.between(0, 1, 0, 7);
        check.due("0 of 7", Looks.drawing(x, 3, 10, 6),
                "........../........../........../........../........../4444434444");
        x.between(1, 0, 1, 1);
        check.due("1 of 1, in the colours of a", Looks.drawing(x, 4, 10, 6),
                "........../........../........../........../........../6666666666");
        x.between(0, 1, 2, 24);
        // two of 24 of -3 or -5 are 0
        check.due("by rising names the higher one is on top", x.point(5, 5, 5), 3);
        x.stroke(1, 0, 0, 0, 1);
        check.due("strokes when b has another name, too", x.of(2, 0), 3);
        x.erase(0, 6);
        check.due("strokes when a has one less", x.of(2, 0), 2);
        check.due("the dot between is gone, the line under it is there", x.point(2, 4, 4), 4);
    }

    private static void betweensHangOnBetweens() {
        CelHouse x = new CelHouse();
        x.key();
        x.key();
        Looks.dot(x, 0, 1, 0, 0, 7);
        Looks.dot(x, 1, 1, 8, 4, 6);
        x.between(0, 1, 1, 2);
        x.between(2, 1, 1, 2);
        x.between(3, 3, 5, 9);
        check.due("a between of a between", x.point(3, 6, 3), 7);
        check.due("a between of the same", x.point(4, 6, 3), 7);
        Looks.dot(x, 1, 1, 4, 0, 6);
        check.due("a between of a between after a change", x.point(3, 3, 0), 7);
        check.due("its old point", x.point(3, 6, 3), -1);
        check.due("a between of the same after a change", x.point(4, 3, 0), 7);
    }

    private static void betweensHavePaintsAndGapsOfTheFirst() {
        CelHouse x = new CelHouse();
        x.key();
        x.key();
        Looks.box(x, 0, 0, 0, 3, 2, 1);
        Looks.box(x, 1, 0, 0, 5, 2, 2);
        x.pen(1, 1);
        x.paint(0, 4);
        x.pen(9, 9);
        x.paint(1, 5);
        x.between(0, 1, 1, 2);
        check.due("paints of a alone", x.of(2, 1), 1);
        check.due("a's paint in the lines between", Looks.drawing(x, 2, 6, 3), "11111./14441./11111.");
        check.due("b's paint is not there", x.point(2, 9, 9), -1);
        x.pen(9, 9);
        x.paint(0, 6);
        check.due("a paint more of a", x.point(2, 9, 9), 6);
        check.due("paints with one more", x.of(2, 1), 2);
        Looks.dot(x, 0, 5, 12, 0, 1);
        Looks.dot(x, 0, 6, 14, 0, 1);
        Looks.dot(x, 1, 5, 12, 0, 1);
        Looks.dot(x, 1, 6, 14, 0, 1);
        check.due("no walls", x.of(2, 5), 0);
        x.gaps(1);
        check.due("gaps of b do not matter", x.of(2, 5), 0);
        x.gaps(0);
        // one between the dots, three between the upper and the lower line of the box
        check.due("gaps as those of a", x.of(2, 5), 4);
    }

    private static void strokesAreRounded() {
        CelHouse x = new CelHouse();
        x.key();
        x.key();
        check.due("stroke from the first pen", x.stroke(0, 0, 5, 3, 1), 1);
        check.due("a line down", Looks.drawing(x, 0, 6, 4), "11..../..11../....1./.....1");
        check.due("stroke from where the pen is", x.stroke(1, 0, 0, 0, 2), 1);
        check.due("the line back", Looks.drawing(x, 1, 6, 4), "2...../.2..../..22../....22");
        x.key();
        Looks.line(x, 2, 7, 3, 0, 2, 5, 0);
        check.due("a steep line", Looks.drawing(x, 2, 4, 6), "...0/...0/...0/...0/...0/..0.");
        x.key();
        Looks.line(x, 3, 7, 15, 11, 15, 11, 7);
        check.due("a line of its begin alone", x.of(3, 4), 1);
        check.due("its point", x.point(3, 15, 11), 7);
    }

    private static void strokesKeepTheirPlace() {
        CelHouse x = new CelHouse();
        x.key();
        Looks.line(x, 0, 3, 0, 1, 2, 1, 1);
        Looks.line(x, 0, 1, 1, 0, 1, 2, 2);
        check.due("the last stroke is on top", Looks.drawing(x, 0, 3, 3), ".2./121/.2.");
        x.pen(0, 2);
        check.due("stroke anew", x.stroke(0, 3, 2, 2, 4), 2);
        check.due("drawn anew it keeps its place", Looks.drawing(x, 0, 3, 3), ".2./.2./424");
        x.erase(0, 3);
        x.pen(0, 2);
        check.due("stroke after erase", x.stroke(0, 3, 2, 2, 5), 2);
        check.due("erased and drawn it is on top", Looks.drawing(x, 0, 3, 3), ".2./.2./555");
        for (int name = 0; name < 8; name++) {
            x.stroke(0, name, name, 11, 6);
        }
        check.due("eight strokes", x.of(0, 0), 8);
        check.due("the eighth anew", x.stroke(0, 7, 0, 0, 6), 8);
    }

    private static void strokesRefuse() {
        CelHouse x = new CelHouse();
        x.key();
        x.between(0, 0, 1, 1);
        x.pen(4, 4);
        check.noPoint("stroke(2, ..)", () -> x.stroke(2, 0, 0, 0, 0));
        check.noPoint("stroke(-1, ..)", () -> x.stroke(-1, 0, 0, 0, 0));
        check.noPoint("stroke to 16, 0", () -> x.stroke(0, 0, 16, 0, 0));
        check.noPoint("stroke to -1, 0", () -> x.stroke(0, 0, -1, 0, 0));
        check.noPoint("stroke to 0, 12", () -> x.stroke(0, 0, 0, 12, 0));
        check.noPoint("stroke to 0, -1", () -> x.stroke(0, 0, 0, -1, 0));
        check.noPoint("stroke in colour 8", () -> x.stroke(0, 0, 0, 0, 8));
        check.noPoint("stroke in colour -1, name 9", () -> x.stroke(0, 9, 0, 0, -1));
        check.noPoint("stroke of a between in colour 8", () -> x.stroke(1, 0, 0, 0, 8));
        check.noRange("stroke name 8", () -> x.stroke(0, 8, 0, 0, 0));
        check.noRange("stroke name -1 of a between", () -> x.stroke(1, -1, 0, 0, 0));
        check.noState("stroke of a between", () -> x.stroke(1, 0, 0, 0, 0));
        check.due("no stroke was drawn", x.of(0, 0), 0);
        x.approve(0, true);
        check.noState("stroke of an approved one", () -> x.stroke(0, 0, 0, 0, 0));
        x.approve(0, false);
        x.stroke(0, 0, 4, 5, 2);
        check.due("the pen stayed", x.of(0, 4), 2);
        check.due("the pen stayed there", x.point(0, 4, 4), 2);
    }

    private static void penMoves() {
        CelHouse x = new CelHouse();
        x.key();
        x.pen(15, 11);
        check.noPoint("pen(16, 0)", () -> x.pen(16, 0));
        check.noPoint("pen(-1, 0)", () -> x.pen(-1, 0));
        check.noPoint("pen(0, 12)", () -> x.pen(0, 12));
        check.noPoint("pen(0, -1)", () -> x.pen(0, -1));
        x.stroke(0, 0, 15, 10, 3);
        check.due("from the pen", x.of(0, 4), 2);
        check.due("from the pen there", x.point(0, 15, 11), 3);
        x.stroke(0, 1, 13, 10, 3);
        check.due("the pen was at the end", x.of(0, 4), 4);
    }

    private static void strokesAreErased() {
        CelHouse x = new CelHouse();
        x.key();
        x.between(0, 0, 0, 1);
        Looks.dot(x, 0, 4, 1, 1, 1);
        Looks.dot(x, 0, 2, 2, 1, 2);
        Looks.dot(x, 0, 7, 3, 1, 3);
        check.due("erase(0, 3)", x.erase(0, 3), false);
        check.due("erase(0, 4)", x.erase(0, 4), true);
        check.due("erase(0, 4) again", x.erase(0, 4), false);
        check.due("after erase", Looks.drawing(x, 0, 4, 2), "..../..23");
        check.due("strokes after erase", x.of(0, 0), 2);
        check.due("a between after erase", Looks.drawing(x, 1, 4, 2), "..../..23");
        check.noPoint("erase(2, 8)", () -> x.erase(2, 8));
        check.noPoint("erase(-1, 0)", () -> x.erase(-1, 0));
        check.noRange("erase(0, 8)", () -> x.erase(0, 8));
        check.noRange("erase(1, -1)", () -> x.erase(1, -1));
        check.noState("erase(1, 2)", () -> x.erase(1, 2));
        x.approve(0, true);
        check.noState("erase of an approved one", () -> x.erase(0, 2));
        check.noState("erase of an approved one without it", () -> x.erase(0, 0));
        check.due("it is there still", x.of(0, 0), 2);
    }

    private static void paintsFill() {
        CelHouse x = new CelHouse();
        x.key();
        Looks.box(x, 0, 1, 0, 4, 3, 1);
        x.pen(2, 1);
        check.due("paint", x.paint(0, 5), 1);
        check.due("a field", Looks.drawing(x, 0, 6, 4), ".1111./.1551./.1551./.1111.");
        x.pen(3, 2);
        check.due("paint the same field", x.paint(0, 6), 2);
        check.due("the last paint", Looks.drawing(x, 0, 6, 4), ".1111./.1661./.1661./.1111.");
        x.pen(0, 0);
        check.due("paint outside", x.paint(0, 7), 3);
        check.due("outside", Looks.drawing(x, 0, 6, 5), "711117/716617/716617/711117/777777");
        x.pen(1, 0);
        check.due("paint on a line", x.paint(0, 0), 4);
        check.due("a paint on a line fills nothing", Looks.drawing(x, 0, 6, 4), "711117/716617/716617/711117");
        x.erase(0, 3);
        check.due("the line is gone, its paint is there", x.point(0, 2, 2), 7);
        check.due("where it was", x.point(0, 1, 1), 7);
        x.erase(0, 0);
        check.due("the last paint is open now", x.point(0, 15, 11), 0);
        x.key();
        Looks.dot(x, 1, 0, 1, 0, 2);
        Looks.dot(x, 1, 1, 0, 1, 2);
        x.pen(0, 0);
        x.paint(1, 3);
        check.due("no step goes across", Looks.drawing(x, 1, 3, 3), "32./2../...");
        check.due("points not clear", x.of(1, 3), 3);
    }

    private static void paintsRefuse() {
        CelHouse x = new CelHouse();
        x.key();
        x.between(0, 0, 0, 1);
        for (int i = 1; i <= 6; i++) {
            check.due("paint", x.paint(0, i), i);
        }
        check.noState("a paint too many", () -> x.paint(0, 0));
        check.noPoint("paint in colour 8 too many", () -> x.paint(0, 8));
        check.noPoint("paint in colour -1", () -> x.paint(1, -1));
        check.noPoint("paint(2, 0)", () -> x.paint(2, 0));
        check.noPoint("paint(-1, 0)", () -> x.paint(-1, 0));
        check.noState("paint of a between", () -> x.paint(1, 0));
        check.due("paints", x.of(0, 1), 6);
        check.due("the last paint", x.point(0, 7, 7), 6);
        x.key();
        x.approve(2, true);
        check.noState("paint of an approved one", () -> x.paint(2, 0));
        check.due("no paint", x.of(2, 1), 0);
    }

    private static void gapsClose() {
        CelHouse x = new CelHouse();
        x.key();
        x.between(0, 0, 0, 1);
        Looks.line(x, 0, 0, 0, 2, 1, 2, 1);
        Looks.line(x, 0, 1, 3, 2, 3, 1, 1);
        Looks.dot(x, 0, 2, 3, 0, 1);
        x.pen(0, 0);
        x.paint(0, 4);
        check.due("an open field", x.of(0, 3), 192);
        check.due("gaps(0)", x.gaps(0), true);
        check.due("a closed field", Looks.drawing(x, 0, 5, 4), "4441./4441./11.1./.....");
        check.due("walls", x.of(0, 5), 1);
        check.due("a between's field", Looks.drawing(x, 1, 5, 4), "4441./4441./11.1./.....");
        check.due("gaps(0) again", x.gaps(0), false);
        check.due("no walls", x.of(0, 5), 0);
        check.due("open again", x.of(0, 3), 192);
        x.gaps(0);
        x.pen(2, 2);
        x.paint(0, 5);
        check.due("a paint on a wall", x.of(0, 3), 11);
        check.noPoint("gaps(2)", () -> x.gaps(2));
        check.noPoint("gaps(-1)", () -> x.gaps(-1));
        check.noState("gaps(1)", () -> x.gaps(1));
        x.approve(0, true);
        check.noState("gaps of an approved one", () -> x.gaps(0));
        check.due("still closed", x.of(0, 5), 1);
    }

    private static void wallsStandBetweenLinesAlone() {
        CelHouse x = new CelHouse();
        x.key();
        x.gaps(0);
        Looks.dot(x, 0, 0, 1, 1, 1);
        Looks.dot(x, 0, 1, 3, 1, 1);
        Looks.dot(x, 0, 2, 2, 3, 1);
        check.due("a wall and a line make no wall", x.of(0, 5), 1);
        Looks.dot(x, 0, 3, 2, 5, 1);
        check.due("a wall between above and below", x.of(0, 5), 2);
        Looks.dot(x, 0, 4, 6, 3, 1);
        Looks.dot(x, 0, 5, 14, 11, 1);
        check.due("a wider gap, and the border, make no wall", x.of(0, 5), 2);
        Looks.dot(x, 0, 6, 2, 1, 1);
        check.due("a line is no wall, but helps to make one", x.of(0, 5), 2);
        Looks.dot(x, 0, 7, 0, 3, 1);
        check.due("a wall beside", x.of(0, 5), 3);
        check.due("no paints", x.of(0, 3), 8);
        x.key();
        x.gaps(1);
        Looks.dot(x, 1, 0, 0, 0, 1);
        Looks.dot(x, 1, 1, 0, 2, 1);
        Looks.dot(x, 1, 2, 15, 9, 1);
        Looks.dot(x, 1, 3, 15, 11, 1);
        Looks.dot(x, 1, 4, 13, 11, 1);
        check.due("walls at the border", x.of(1, 5), 3);
    }

    private static void drawingsAreApproved() {
        CelHouse x = new CelHouse();
        x.key();
        x.key();
        x.between(0, 1, 0, 1);
        x.between(2, 2, 0, 1);
        x.scene(4, 0);
        x.scene(3, 0);
        x.expose(0, 0, 1, 0);
        x.expose(0, 3, 2, 2);
        x.expose(1, 1, 2, 3);
        check.noState("approve(0, false)", () -> x.approve(0, false));
        check.due("approve(0, true)", x.approve(0, true), 4);
        check.noState("approve(0, true) again", () -> x.approve(0, true));
        check.due("approve(1, true)", x.approve(1, true), 3);
        check.due("approve(2, true)", x.approve(2, true), 3);
        check.due("approve(3, true)", x.approve(3, true), 1);
        check.due("of(3, 2)", x.of(3, 2), 1);
        check.due("a retake of 0", x.approve(0, false), 4);
        check.due("of(0, 2)", x.of(0, 2), 0);
        check.due("an approved between goes with its keys", x.stroke(0, 1, 0, 0, 0), 1);
        check.noState("its other key is approved", () -> x.stroke(1, 1, 5, 0, 0));
        x.approve(1, false);
        x.stroke(1, 1, 5, 0, 0);
        check.due("the between has a stroke", x.of(2, 0), 1);
        check.due("a retake of a between", x.approve(2, false), 3);
        check.noState("a retake again", () -> x.approve(2, false));
        check.noPoint("approve(4, true)", () -> x.approve(4, true));
        check.noPoint("approve(-1, false)", () -> x.approve(-1, false));
    }

    private static void somethingIsAsked() {
        CelHouse x = new CelHouse();
        x.key();
        Looks.box(x, 0, 0, 0, 4, 4, 1);
        Looks.line(x, 0, 7, 2, 0, 2, 1, 2);
        Looks.dot(x, 0, 6, 2, 3, 2);
        x.gaps(0);
        x.pen(1, 2);
        x.paint(0, 3);
        check.due("of(0, 0)", x.of(0, 0), 6);
        check.due("of(0, 1)", x.of(0, 1), 1);
        check.due("of(0, 2)", x.of(0, 2), 0);
        check.due("of(0, 4)", x.of(0, 4), 18);
        // left and right of (2, 1) and of (2, 3), and between both
        check.due("of(0, 5)", x.of(0, 5), 5);
        check.due("of(0, 3)", x.of(0, 3), 19);
        x.approve(0, true);
        check.due("of(0, 2), approved", x.of(0, 2), 1);
        check.noRange("of(0, 6)", () -> x.of(0, 6));
        check.noRange("of(0, -1)", () -> x.of(0, -1));
        check.noPoint("of(1, 6)", () -> x.of(1, 6));
        check.noPoint("of(-1, 0)", () -> x.of(-1, 0));
    }

    private static void pointsAreAsked() {
        CelHouse x = new CelHouse();
        x.key();
        x.stroke(0, 0, 15, 11, 0);
        check.due("point(0, 0, 0)", x.point(0, 0, 0), 0);
        check.due("point(0, 15, 11)", x.point(0, 15, 11), 0);
        check.due("point(0, 15, 0)", x.point(0, 15, 0), -1);
        check.noPoint("point(1, 0, 0)", () -> x.point(1, 0, 0));
        check.noPoint("point(-1, 0, 0)", () -> x.point(-1, 0, 0));
        check.noPoint("point(0, 16, 0)", () -> x.point(0, 16, 0));
        check.noPoint("point(0, -1, 0)", () -> x.point(0, -1, 0));
        check.noPoint("point(0, 0, 12)", () -> x.point(0, 0, 12));
        check.noPoint("point(0, 0, -1)", () -> x.point(0, 0, -1));
    }
}
