/** The sentences on drawings: those of "Drawings", and of the promises 1 to 9, 23 and 24. */
final class DrawingEdges {
    private static final int NONE = CelHouse.NONE;

    private final Sentences the;
    private final Check check;

    DrawingEdges(Sentences sentences, Check complaints) {
        the = sentences;
        check = complaints;
    }

    void tell() {
        ofPictures();
        ofKeys();
        ofBetweens();
        ofLines();
        ofWalls();
        ofFields();
        ofNewHouses();
        ofKey();
        ofBetween();
        ofStroke();
        ofPen();
        ofErase();
        ofPaint();
        ofGaps();
        ofApprove();
        ofOf();
        ofPoint();
    }

    private static CelHouse withKeys(int keys) {
        CelHouse x = new CelHouse();
        for (int i = 0; i < keys; i++) {
            x.key();
        }
        return x;
    }

    /** A key 0 with a stroke, an in-between 1 of it, an approved key 2 with one, and the pen at (4, 4). */
    private static CelHouse withRefusing() {
        CelHouse x = withKeys(1);
        x.between(0, 0, 1, 1);
        x.key();
        Looks.dot(x, 0, 3, 1, 1, 5);
        Looks.dot(x, 2, 3, 1, 1, 5);
        x.approve(2, true);
        x.pen(4, 4);
        return x;
    }

    private void ofPictures() {
        the.in("Drawings");
        the.test("A picture has 16 columns, x from 0, and 12 rows, y from 0, of points", () -> {
            CelHouse x = withKeys(2);
            Looks.dot(x, 0, 0, 0, 0, 1);
            Looks.dot(x, 0, 1, 15, 0, 2);
            Looks.dot(x, 0, 2, 0, 11, 3);
            Looks.dot(x, 0, 3, 15, 11, 4);
            check.due("left above", x.point(0, 0, 0), 1);
            check.due("right above", x.point(0, 15, 0), 2);
            check.due("left below", x.point(0, 0, 11), 3);
            check.due("right below", x.point(0, 15, 11), 4);
            check.due("four corners", x.of(0, 4), 4);
            x.paint(1, 0);
            check.due("all points", x.of(1, 3), 16 * 12);
            check.noPoint("a column 16", () -> x.point(0, 16, 0));
            check.noPoint("a row 12", () -> x.point(0, 0, 12));
        });
        the.test("a point is clear, or has a colour name, 0 to 7", () -> {
            CelHouse x = withKeys(1);
            for (int name = 0; name < 8; name++) {
                Looks.dot(x, 0, name, name, 0, name);
            }
            check.due("all colour names, and clear", Looks.drawing(x, 0, 9, 2), "01234567./.........");
            check.due("the name 0 is not clear", x.of(0, 3), 8);
        });
        the.test("Drawings are numbered from 0, at most 16: keys, and in-betweens", () -> {
            CelHouse x = new CelHouse();
            for (int i = 0; i < 16; i += 2) {
                check.due("a key's number", x.key(), i);
                check.due("an in-between's number", x.between(i, i, 1, 1), i + 1);
            }
            check.noState("a key too many", x::key);
            check.noState("an in-between too many", () -> x.between(0, 0, 1, 1));
            check.due("the drawing 15 is there", x.of(15, 0), 0);
            check.noPoint("the drawing 16 is not", () -> x.of(16, 0));
        });
    }

    private void ofKeys() {
        the.test("A key has strokes, at most 8", () -> {
            CelHouse x = withKeys(1);
            for (int name = 7; name >= 0; name--) {
                x.pen(name, 0);
                check.due("a stroke more", x.stroke(0, name, name, 0, name), 8 - name);
            }
            for (int name = 0; name < 8; name++) {
                x.pen(name, 1);
                check.due("none more when full", x.stroke(0, name, name, 1, name), 8);
            }
            check.due("all eight anew", Looks.drawing(x, 0, 9, 2), "........./01234567.");
        });
        the.test("in the order in which they were drawn", () -> {
            CelHouse x = withKeys(1);
            for (int name = 7; name >= 0; name--) {
                Looks.dot(x, 0, name, 5, 5, name);
                check.due("the last one is seen", x.point(0, 5, 5), name);
            }
            for (int name = 0; name < 7; name++) {
                x.erase(0, name);
                check.due("the one ahead of it is seen", x.point(0, 5, 5), name + 1);
            }
            CelHouse y = withKeys(1);
            for (int name = 0; name < 8; name++) {
                Looks.dot(y, 0, name, 5, 5, name);
            }
            for (int name = 0; name < 7; name += 2) {
                y.erase(0, name);
                check.due("the last one is seen without one ahead of it", y.point(0, 5, 5), 7);
            }
            y.erase(0, 7);
            check.due("then the one that is the last", y.point(0, 5, 5), 5);
        });
        the.test("(one that is drawn anew keeps its place)", () -> {
            CelHouse x = withKeys(1);
            Looks.dot(x, 0, 4, 5, 5, 1);
            Looks.dot(x, 0, 2, 5, 5, 2);
            Looks.dot(x, 0, 6, 5, 5, 3);
            Looks.dot(x, 0, 4, 5, 5, 4);
            check.due("the first one drawn anew", x.point(0, 5, 5), 3);
            Looks.dot(x, 0, 2, 5, 5, 5);
            check.due("the middle one drawn anew", x.point(0, 5, 5), 3);
            Looks.dot(x, 0, 6, 5, 5, 6);
            check.due("the last one drawn anew", x.point(0, 5, 5), 6);
            x.erase(0, 6);
            check.due("under it the middle one", x.point(0, 5, 5), 5);
            x.erase(0, 4);
            Looks.dot(x, 0, 4, 5, 5, 7);
            check.due("one that was erased comes last", x.point(0, 5, 5), 7);
        });
        the.test("each with a name, 0 to 7, unlike in one drawing", () -> {
            CelHouse x = withKeys(2);
            Looks.dot(x, 0, 0, 1, 0, 1);
            Looks.dot(x, 0, 7, 2, 0, 2);
            Looks.dot(x, 1, 7, 3, 0, 3);
            check.due("two names", x.of(0, 0), 2);
            Looks.dot(x, 0, 7, 4, 0, 4);
            check.due("two names still", x.of(0, 0), 2);
            check.due("the one of the name before is gone", Looks.drawing(x, 0, 6, 1), ".1..4.");
            check.due("that of another drawing is not", Looks.drawing(x, 1, 6, 1), "...3..");
        });
        the.test("from one point to another one, in a colour name", () -> {
            CelHouse x = withKeys(1);
            Looks.line(x, 0, 0, 1, 1, 4, 1, 6);
            check.due("both ends are of it", Looks.drawing(x, 0, 6, 3), "....../.6666./......");
        });
        the.test("and paints, at most 6, each at a point, in a colour name", () -> {
            CelHouse x = withKeys(1);
            for (int i = 0; i < 5; i++) {
                Looks.line(x, 0, i, 2 * i + 1, 0, 2 * i + 1, 11, 7);
            }
            for (int i = 0; i < 6; i++) {
                x.pen(2 * i, 11 - i);
                check.due("a paint more", x.paint(0, i), i + 1);
            }
            check.noState("a paint too many", () -> x.paint(0, 6));
            check.due("six fields", Looks.drawing(x, 0, 12, 2), "071727374755/071727374755");
        });
        the.test("its gaps are closed, or not, as at first", () -> {
            CelHouse x = withKeys(1);
            Looks.dot(x, 0, 0, 1, 0, 1);
            Looks.dot(x, 0, 1, 3, 0, 1);
            check.due("not at first", x.of(0, 5), 0);
            x.gaps(0);
            check.due("closed", x.of(0, 5), 1);
            x.gaps(0);
            check.due("open again", x.of(0, 5), 0);
        });
    }

    private void ofBetweens() {
        the.test("An in-between is of two lower drawings a and b, perhaps the same one, n of d", () -> {
            CelHouse x = withKeys(1);
            Looks.line(x, 0, 5, 15, 0, 3, 11, 4);
            check.noPoint("a is not lower", () -> x.between(1, 0, 0, 1));
            check.noPoint("b is not lower", () -> x.between(0, 1, 0, 1));
            check.due("of the same one", x.between(0, 0, 7, 9), 1);
            check.due("of an in-between", x.between(1, 0, 1, 2), 2);
            for (int y = 0; y < 12; y++) {
                for (int column = 0; column < 16; column += 3) {
                    check.due("as the same one at " + column + ", " + y, x.point(2, column, y), x.point(0, column, y));
                }
            }
        });
        the.test("it has the strokes of a whose names b has, too", () -> {
            CelHouse x = withKeys(2);
            x.between(0, 1, 0, 1);
            check.due("of two without strokes", x.of(2, 0), 0);
            Looks.dot(x, 0, 0, 0, 0, 1);
            check.due("a name of a alone", x.of(2, 0), 0);
            Looks.dot(x, 1, 7, 0, 0, 2);
            check.due("a name of each", x.of(2, 0), 0);
            Looks.dot(x, 1, 0, 5, 0, 2);
            check.due("a name of both", x.of(2, 0), 1);
            for (int name = 0; name < 8; name++) {
                Looks.dot(x, 0, name, name, 1, 1);
                Looks.dot(x, 1, name, name, 9, 2);
            }
            check.due("all names of both", x.of(2, 0), 8);
            x.erase(1, 3);
            check.due("all but one", x.of(2, 0), 7);
            check.due("all but that one", Looks.drawing(x, 2, 9, 2), "........./111.1111.");
        });
        the.test("by rising names", () -> {
            CelHouse x = withKeys(2);
            for (int name = 7; name >= 0; name--) {
                Looks.dot(x, 0, name, 2, 2, name);
                Looks.dot(x, 1, name, 2, 2, name);
            }
            x.between(0, 1, 1, 2);
            check.due("in a key the last one is seen", x.point(0, 2, 2), 0);
            check.due("in an in-between the greatest name is", x.point(2, 2, 2), 7);
            x.erase(1, 7);
            check.due("then the next one", x.point(2, 2, 2), 6);
        });
        the.test("each with its numbers those of a and n times what those of b are more, divided by d", () -> {
            CelHouse x = withKeys(2);
            Looks.line(x, 0, 0, 0, 11, 15, 0, 1);
            Looks.line(x, 1, 0, 15, 0, 0, 11, 2);
            x.between(0, 1, 0, 24);
            check.due("0 of 24 begins as a", x.point(2, 0, 11), 1);
            check.due("0 of 24 ends as a", x.point(2, 15, 0), 1);
            x.between(0, 1, 24, 24);
            check.due("24 of 24 begins as b", x.point(3, 15, 0), 1);
            check.due("24 of 24 ends as b", x.point(3, 0, 11), 1);
            check.due("24 of 24 is as long", x.of(3, 4), 16);
            x.between(0, 1, 1, 2);
            // 0 and 15 / 2, 11 and -11 / 2, 15 and -15 / 2, 0 and 11 / 2
            check.due("a line from (7, 6) to (8, 5)", x.of(4, 4), 2);
            check.due("its begin", x.point(4, 7, 6), 1);
            check.due("its end", x.point(4, 8, 5), 1);
            x.between(0, 1, 23, 24);
            // 345 / 24 is 14, -253 / 24 is -10, 253 / 24 is 10
            check.due("23 of 24 begins at (14, 1)", x.point(5, 14, 1), 1);
            check.due("23 of 24 ends at (1, 10)", x.point(5, 1, 10), 1);
            check.due("23 of 24 has no more", x.of(5, 4), 14);
            x.between(0, 1, 1, 1);
            check.due("1 of 1 begins as b", x.point(6, 15, 0), 1);
        });
        the.test("divided by d, in the colour of a", () -> {
            CelHouse x = withKeys(2);
            Looks.dot(x, 0, 0, 3, 3, 0);
            Looks.dot(x, 1, 0, 3, 3, 7);
            x.between(0, 1, 1, 1);
            x.between(1, 0, 0, 1);
            check.due("in that of a, though it is all b", x.point(2, 3, 3), 0);
            check.due("in that of a, the other way", x.point(3, 3, 3), 7);
        });
        the.test("the paints of a, and its gaps", () -> {
            CelHouse x = withKeys(2);
            x.between(0, 1, 0, 1);
            x.between(2, 1, 1, 2);
            x.between(1, 3, 1, 2);
            Looks.dot(x, 0, 5, 1, 0, 1);
            Looks.dot(x, 0, 6, 3, 0, 1);
            Looks.dot(x, 1, 6, 3, 4, 2);
            Looks.dot(x, 1, 5, 1, 0, 2);
            Looks.paint(x, 0, 0, 0, 4);
            x.gaps(0);
            check.due("of an in-between's a", x.point(3, 0, 0), 4);
            check.due("its gaps", x.of(3, 5), 0);
            Looks.dot(x, 1, 6, 3, 1, 2);
            check.due("its gaps, with the lines in a row", x.of(3, 5), 1);
            check.due("not of an in-between's b", x.of(4, 1) + x.of(4, 5), 0);
            check.due("an in-between's b has strokes", x.of(4, 0), 2);
            x.erase(0, 5);
            check.due("an in-between's b has one less", x.of(4, 0), 1);
        });
        the.test("the paints of a, and its gaps as those of a are", () -> {
            CelHouse x = withKeys(2);
            x.between(0, 1, 1, 1);
            Looks.paint(x, 1, 0, 0, 3);
            x.gaps(1);
            for (int name = 0; name < 2; name++) {
                Looks.dot(x, 0, name, 1 + 2 * name, 0, 1);
                Looks.dot(x, 1, name, 1 + 2 * name, 0, 1);
            }
            check.due("no paint of b", x.of(2, 1), 0);
            check.due("no gaps as those of b", x.of(2, 5), 0);
            for (int i = 1; i <= 6; i++) {
                Looks.paint(x, 0, 5, 5, i);
                check.due("as many paints as a has", x.of(2, 1), i);
            }
            check.due("the last paint of a", x.point(2, 5, 5), 6);
            x.gaps(0);
            check.due("gaps closed as those of a", x.of(2, 5), 1);
            check.due("the wall is not painted", x.point(2, 2, 0), NONE);
            x.gaps(1);
            check.due("gaps closed though those of b are not", x.of(2, 5), 1);
            x.gaps(0);
            check.due("gaps open as those of a", x.of(2, 5), 0);
            check.due("where the wall was", x.point(2, 2, 0), 6);
        });
    }

    private void ofLines() {
        the.test("The points of a stroke: with m the greater of the amounts by which its ends differ in x and in y", () -> {
            CelHouse x = withKeys(4);
            Looks.line(x, 0, 0, 0, 0, 15, 11, 1);
            check.due("the longest one", x.of(0, 4), 16);
            check.due("its begin", x.point(0, 0, 0), 1);
            check.due("its second point", x.point(0, 1, 0), 1);
            check.due("the one ahead of its end", x.point(0, 14, 10), 1);
            check.due("its end", x.point(0, 15, 11), 1);
            Looks.line(x, 1, 0, 3, 11, 4, 0, 1);
            check.due("as many points as rows", x.of(1, 4), 12);
            check.due("the last but one stays in the column", x.point(1, 3, 1), 1);
            check.due("the last one goes aside", x.point(1, 4, 0), 1);
            Looks.line(x, 2, 0, 7, 2, 4, 5, 1);
            check.due("both amounts alike", x.of(2, 4), 4);
            check.due("a point of it", x.point(2, 5, 4), 1);
        });
        the.test("for k from 0 to m: the begin, and k times the difference divided by m, each of x and y", () -> {
            CelHouse x = withKeys(4);
            Looks.line(x, 0, 0, 0, 0, 5, 3, 1);
            check.due("right and down", Looks.drawing(x, 0, 6, 4), "11..../..11../....1./.....1");
            Looks.line(x, 1, 0, 5, 3, 0, 0, 1);
            check.due("left and up", Looks.drawing(x, 1, 6, 4), "1...../.1..../..11../....11");
            Looks.line(x, 2, 0, 0, 3, 5, 0, 1);
            check.due("right and up", Looks.drawing(x, 2, 6, 4), ".....1/....1./..11../11....");
            Looks.line(x, 3, 0, 5, 0, 0, 3, 1);
            check.due("left and down", Looks.drawing(x, 3, 6, 4), "....11/..11../.1..../1.....");
            CelHouse y = withKeys(1);
            Looks.line(y, 0, 0, 1, 1, 3, 2, 0);
            Looks.line(y, 0, 1, 1, 4, 3, 3, 1);
            y.scene(1, 0);
            y.expose(0, 0, 0, 0);
            check.due("seen, and seen anew", Looks.frame(y, 0, 0, 6, 6), "....../.11.../...1../...2../.22.../......");
        });
        the.test("just the begin if m is 0", () -> {
            CelHouse x = withKeys(1);
            Looks.dot(x, 0, 0, 15, 11, 3);
            check.due("one point", x.of(0, 4), 1);
            check.due("the begin", x.point(0, 15, 11), 3);
            x.scene(1, 0);
            x.expose(0, 0, 0, 0);
            check.due("seen", x.seen(0, 0, 15, 11), 4);
            check.due("seen anew", x.seenAnew(0, 0, 15, 11), 4);
        });
        the.test("A point that is of a stroke is a line, that of the last such stroke", () -> {
            CelHouse x = withKeys(1);
            Looks.line(x, 0, 7, 0, 1, 4, 1, 1);
            Looks.line(x, 0, 0, 2, 0, 2, 3, 2);
            Looks.dot(x, 0, 4, 4, 1, 3);
            check.due("three strokes", Looks.drawing(x, 0, 6, 4), "..2.../11213./..2.../..2...");
            check.due("a point of two counts once", x.of(0, 4), 8);
        });
    }

    private void ofWalls() {
        the.test("With gaps closed, a point that is no line, with lines right to its left and right", () -> {
            CelHouse x = withKeys(2);
            x.gaps(0);
            Looks.dot(x, 0, 0, 0, 0, 1);
            check.due("one line makes no wall", x.of(0, 5), 0);
            Looks.dot(x, 0, 1, 2, 0, 2);
            check.due("a wall at the upper border", x.of(0, 5), 1);
            Looks.dot(x, 0, 2, 13, 11, 1);
            Looks.dot(x, 0, 3, 15, 11, 1);
            check.due("a wall at the lower border", x.of(0, 5), 2);
            Looks.dot(x, 0, 4, 5, 5, 1);
            Looks.dot(x, 0, 5, 8, 5, 1);
            check.due("a gap of two makes none", x.of(0, 5), 2);
            Looks.dot(x, 0, 6, 1, 0, 1);
            check.due("a line is none", x.of(0, 5), 1);
            x.gaps(0);
            check.due("none with gaps open", x.of(0, 5), 0);
            x.gaps(1);
            // the point behind the end of a row is not the one at the begin of the next one
            Looks.dot(x, 1, 0, 15, 3, 1);
            Looks.dot(x, 1, 1, 1, 4, 1);
            Looks.dot(x, 1, 2, 14, 6, 1);
            Looks.dot(x, 1, 3, 0, 7, 1);
            check.due("none around the border", x.of(1, 5), 0);
        });
        the.test("or right above and below it, is a wall", () -> {
            CelHouse x = withKeys(2);
            x.gaps(0);
            Looks.dot(x, 0, 0, 0, 0, 1);
            Looks.dot(x, 0, 1, 0, 2, 2);
            check.due("a wall at the left border", x.of(0, 5), 1);
            Looks.dot(x, 0, 2, 15, 9, 1);
            Looks.dot(x, 0, 3, 15, 11, 1);
            check.due("a wall at the right border", x.of(0, 5), 2);
            Looks.dot(x, 0, 4, 7, 5, 1);
            Looks.dot(x, 0, 5, 7, 8, 1);
            check.due("a gap of two makes none", x.of(0, 5), 2);
            x.gaps(1);
            Looks.dot(x, 1, 0, 5, 1, 1);
            Looks.dot(x, 1, 1, 5, 10, 1);
            Looks.dot(x, 1, 2, 6, 0, 1);
            Looks.dot(x, 1, 3, 6, 11, 1);
            check.due("none with a border at one side", x.of(1, 5), 0);
            Looks.dot(x, 1, 4, 9, 6, 1);
            Looks.dot(x, 1, 5, 11, 6, 1);
            Looks.dot(x, 1, 6, 10, 5, 1);
            Looks.dot(x, 1, 7, 10, 7, 1);
            check.due("lines at all four sides make one", x.of(1, 5), 1);
        });
        the.test("a point that is no line", () -> {
            CelHouse x = withKeys(1);
            x.gaps(0);
            Looks.line(x, 0, 0, 2, 4, 6, 4, 1);
            check.due("no wall inside a line", x.of(0, 5), 0);
            Looks.line(x, 0, 1, 2, 6, 6, 6, 1);
            check.due("walls between two lines", x.of(0, 5), 5);
            check.due("walls are clear", x.of(0, 3), 10);
            Looks.dot(x, 0, 2, 4, 5, 2);
            // the points beside (4, 5) are walls still
            check.due("one less", x.of(0, 5), 4);
            Looks.line(x, 0, 1, 2, 7, 6, 7, 1);
            // what remains is (4, 6), between (4, 5) and (4, 7); walls make no walls
            check.due("a wall makes none", x.of(0, 5), 1);
        });
    }

    private void ofFields() {
        the.test("A paint fills from its point, if that is neither line nor wall", () -> {
            CelHouse x = withKeys(1);
            Looks.dot(x, 0, 0, 1, 0, 1);
            Looks.dot(x, 0, 1, 3, 0, 1);
            Looks.paint(x, 0, 1, 0, 5);
            check.due("on a line it fills nothing", x.of(0, 3), 2);
            check.due("it is one, though", x.of(0, 1), 1);
            x.gaps(0);
            Looks.paint(x, 0, 2, 0, 6);
            check.due("on a wall it fills nothing", x.of(0, 3), 2);
            x.gaps(0);
            check.due("on what was a wall it fills all", x.of(0, 3), 192);
            check.due("the wall's, too", x.point(0, 2, 0), 6);
            check.due("the line stays", x.point(0, 1, 0), 1);
            x.gaps(0);
            x.erase(0, 0);
            check.due("on what was a line it fills all", x.point(0, 15, 11), 6);
        });
        the.test("all points that can be come to from it by steps to the left, right, up and down", () -> {
            CelHouse x = withKeys(3);
            Looks.line(x, 0, 0, 2, 0, 2, 10, 1);
            Looks.line(x, 0, 1, 4, 1, 4, 11, 1);
            Looks.line(x, 0, 2, 6, 0, 6, 10, 1);
            Looks.paint(x, 0, 0, 0, 5);
            check.due("around corners to the right", x.of(0, 3), 192);
            Looks.paint(x, 0, 15, 0, 6);
            check.due("around corners to the left", x.point(0, 0, 0), 6);
            Looks.paint(x, 0, 5, 5, 4);
            check.due("from the middle to the left", x.point(0, 0, 0), 4);
            check.due("from the middle to the right", x.point(0, 15, 11), 4);
            // a line down the middle: no step goes from the end of a row to the begin of another one
            Looks.line(x, 1, 0, 8, 0, 8, 11, 1);
            Looks.paint(x, 1, 15, 5, 2);
            check.due("the right half", x.of(1, 3), 7 * 12 + 12);
            check.due("not the left one", x.point(1, 0, 6), NONE);
            Looks.line(x, 1, 0, 0, 5, 15, 5, 1);
            Looks.paint(x, 1, 0, 0, 3);
            check.due("the upper half", x.of(1, 3), 16 + 5 * 16);
            check.due("not the lower one", x.point(1, 0, 11), NONE);
            Looks.dot(x, 2, 0, 1, 0, 1);
            Looks.dot(x, 2, 1, 0, 1, 1);
            Looks.paint(x, 2, 0, 0, 3);
            check.due("no step goes across", x.of(2, 3), 3);
        });
        the.test("over points that are neither", () -> {
            CelHouse x = withKeys(1);
            Looks.line(x, 0, 0, 0, 2, 2, 2, 1);
            Looks.line(x, 0, 1, 4, 2, 4, 0, 1);
            Looks.paint(x, 0, 0, 0, 3);
            check.due("over the gap", x.of(0, 3), 192);
            x.gaps(0);
            check.due("not over the wall", Looks.drawing(x, 0, 6, 4), "33331./33331./111.1./......");
            Looks.line(x, 0, 0, 0, 2, 4, 2, 1);
            check.due("not over the line", Looks.drawing(x, 0, 6, 4), "33331./33331./11111./......");
            Looks.line(x, 0, 0, 0, 2, 1, 2, 1);
            check.due("over a gap of two", x.of(0, 3), 192);
        });
        the.test("The picture of a drawing has at each point the colour of its line", () -> {
            CelHouse x = withKeys(1);
            Looks.dot(x, 0, 0, 0, 0, 0);
            Looks.paint(x, 0, 1, 0, 7);
            Looks.paint(x, 0, 0, 0, 6);
            check.due("a paint behind it leaves it", x.point(0, 0, 0), 0);
            check.due("beside it", x.point(0, 1, 0), 7);
        });
        the.test("otherwise that of the last paint that fills it", () -> {
            CelHouse x = withKeys(1);
            Looks.box(x, 0, 1, 1, 3, 3, 1);
            Looks.paint(x, 0, 2, 2, 5);
            Looks.paint(x, 0, 0, 0, 6);
            Looks.paint(x, 0, 1, 2, 7);
            check.due("the last one that fills it", Looks.drawing(x, 0, 5, 5), "66666/61116/61516/61116/66666");
            x.erase(0, 3);
            check.due("the last one of three", Looks.drawing(x, 0, 5, 5), "77777/71117/77717/71117/77777");
        });
        the.test("otherwise it is clear", () -> {
            CelHouse x = withKeys(1);
            check.due("without strokes and paints", x.of(0, 3), 0);
            check.due("a point", x.point(0, 7, 7), NONE);
            Looks.box(x, 0, 1, 1, 3, 3, 0);
            check.due("inside", x.point(0, 2, 2), NONE);
            Looks.paint(x, 0, 2, 2, 0);
            check.due("outside", x.point(0, 4, 2), NONE);
        });
    }

    private void ofNewHouses() {
        the.in("Promise 1");
        the.test("Makes a house without drawings, scenes, pegs and hands", () -> {
            CelHouse x = new CelHouse();
            check.noPoint("a drawing", () -> x.of(0, 0));
            check.noPoint("a scene", () -> x.stale(0));
            check.noPoint("a peg", () -> x.move(0, 0, 0, 0));
            check.noPoint("a hand", () -> x.hours(0));
            check.due("the first key", x.key(), 0);
            check.due("the first scene", x.scene(1, 0), 0);
            check.due("the first peg", x.peg(NONE), 0);
            check.due("the first hand", x.hand(1), 0);
            CelHouse other = new CelHouse();
            check.noPoint("a drawing of another house", () -> other.of(0, 0));
            check.due("a colour of another house", x.colour(0, 0, 50), 1);
            check.due("its own colour", other.colour(0, 0, 60), 1);
        });
        the.test("the film is empty", () -> {
            CelHouse x = new CelHouse();
            check.noPoint("its first frame", () -> x.film(0));
            check.due("its length", x.cut(), 0);
        });
    }

    private void ofKey() {
        the.in("Promise 2");
        the.test("Makes a key without strokes and paints", () -> {
            CelHouse x = withKeys(1);
            Looks.dot(x, 0, 0, 0, 0, 0);
            x.paint(0, 0);
            x.approve(0, true);
            x.key();
            for (int what = 0; what < 6; what++) {
                check.due("of(1, " + what + ")", x.of(1, what), 0);
            }
            check.due("it is a key", x.gaps(1), true);
        });
        the.test("Returns its number", () -> {
            CelHouse x = new CelHouse();
            for (int i = 0; i < 16; i++) {
                check.due("key", x.key(), i);
            }
        });
        the.test("Throws `IllegalStateException` if there are 16 drawings", () -> {
            CelHouse x = withKeys(15);
            check.due("the sixteenth", x.key(), 15);
            check.noState("the seventeenth", x::key);
            check.noState("the seventeenth again", x::key);
        });
    }

    private void ofBetween() {
        the.in("Promise 3");
        the.test("Makes an in-between", () -> {
            CelHouse x = withKeys(1);
            x.between(0, 0, 0, 1);
            check.noState("it can't be changed", () -> x.gaps(1));
            check.due("it has no strokes", x.of(1, 0), 0);
            check.due("it is not approved", x.of(1, 2), 0);
        });
        the.test("`a`: a drawing", () -> {
            CelHouse x = withKeys(3);
            check.noPoints("a", a -> x.between(a, 0, 0, 1), -1, 3, 15, 16);
            check.due("the lowest a", x.between(0, 1, 0, 1), 3);
            check.due("the highest a", x.between(3, 1, 0, 1), 4);
        });
        the.test("`b`: a drawing", () -> {
            CelHouse x = withKeys(3);
            check.noPoints("b", b -> x.between(0, b, 0, 1), -1, 3, 15, 16);
            check.due("the lowest b", x.between(1, 0, 0, 1), 3);
            check.due("the highest b", x.between(1, 3, 0, 1), 4);
        });
        the.test("`n`: 0 to d", () -> {
            CelHouse x = withKeys(1);
            check.noRanges("n of 1", n -> x.between(0, 0, n, 1), -1, 2);
            check.noRanges("n of 24", n -> x.between(0, 0, n, 24), -1, 25);
            check.due("0 of 1", x.between(0, 0, 0, 1), 1);
            check.due("1 of 1", x.between(0, 0, 1, 1), 2);
            check.due("0 of 24", x.between(0, 0, 0, 24), 3);
            check.due("24 of 24", x.between(0, 0, 24, 24), 4);
        });
        the.test("`d`: 1 to 24", () -> {
            CelHouse x = withKeys(1);
            check.noRanges("d", d -> x.between(0, 0, 0, d), -1, 0, 25);
            check.noRange("-1 of -1", () -> x.between(0, 0, -1, -1));
            check.noRange("25 of 25", () -> x.between(0, 0, 25, 25));
            check.due("of 1", x.between(0, 0, 0, 1), 1);
            check.due("of 24", x.between(0, 0, 0, 24), 2);
        });
        the.test("Returns its number", () -> {
            CelHouse x = withKeys(1);
            for (int i = 1; i < 16; i++) {
                check.due("between", x.between(i - 1, i / 2, 1, 3), i);
            }
        });
        the.test("Throws `IndexOutOfBoundsException` if there is no such drawing, of either", () -> {
            CelHouse x = new CelHouse();
            check.noPoint("without drawings", () -> x.between(0, 0, 0, 1));
            x.key();
            check.noPoint("no a", () -> x.between(1, 0, 0, 1));
            check.noPoint("no b", () -> x.between(0, 1, 0, 1));
            check.noPoint("neither", () -> x.between(-1, 1, 0, 1));
            check.noPoint("no b, and no n and d", () -> x.between(0, 1, 9, 0));
        });
        the.test("Throws `IllegalArgumentException` if n or d is out of range", () -> {
            CelHouse x = withKeys(1);
            check.noRange("n", () -> x.between(0, 0, 6, 5));
            check.noRange("d", () -> x.between(0, 0, 0, 0));
            check.noRange("both", () -> x.between(0, 0, -1, 25));
            check.due("none was made", x.key(), 1);
        });
        the.test("Throws `IllegalStateException` if there are 16 drawings", () -> {
            CelHouse x = withKeys(15);
            check.due("the sixteenth", x.between(14, 0, 1, 2), 15);
            check.noState("the seventeenth", () -> x.between(14, 0, 1, 2));
            check.noRange("the seventeenth with a wrong n", () -> x.between(14, 0, 3, 2));
            check.noPoint("the seventeenth of itself", () -> x.between(16, 0, 1, 2));
        });
    }

    private void ofStroke() {
        the.in("Promise 4");
        the.test("Draws a stroke of a key, in place of the one with that name, if there is one, from where the pen is", () -> {
            CelHouse x = withKeys(1);
            x.pen(1, 0);
            x.stroke(0, 5, 3, 0, 2);
            check.due("from the pen", Looks.drawing(x, 0, 6, 1), ".222..");
            x.pen(4, 0);
            x.stroke(0, 5, 5, 0, 3);
            check.due("in place of it, all new", Looks.drawing(x, 0, 6, 1), "....33");
        });
        the.test("the pen is at its end then", () -> {
            CelHouse x = withKeys(2);
            x.pen(4, 4);
            x.stroke(0, 0, 2, 1, 1);
            x.stroke(0, 1, 2, 1, 2);
            check.due("a dot at the end", x.point(0, 2, 1), 2);
            check.due("no more than it", x.of(0, 4), 4);
            x.paint(1, 3);
            x.stroke(1, 0, 2, 0, 4);
            check.due("on another drawing, too", x.of(1, 4), 2);
        });
        the.test("The pen is at the point 0 of the row 0 at first", () -> {
            CelHouse x = withKeys(1);
            x.stroke(0, 0, 0, 0, 6);
            check.due("a dot there", x.point(0, 0, 0), 6);
            check.due("and no more", x.of(0, 4), 1);
            CelHouse y = withKeys(1);
            y.stroke(0, 0, 15, 0, 6);
            check.due("a line from there", y.of(0, 4), 16);
        });
        the.test("`drawing`: its number", () -> {
            CelHouse x = withKeys(3);
            check.noPoints("drawing", d -> x.stroke(d, 0, 0, 0, 0), -1, 3, 15, 16);
            check.due("the lowest", x.stroke(0, 0, 0, 0, 0), 1);
            check.due("the highest", x.stroke(2, 0, 0, 0, 0), 1);
            check.due("not the one between", x.of(1, 0), 0);
        });
        the.test("`name`: 0 to 7", () -> {
            CelHouse x = withKeys(1);
            check.noRanges("name", name -> x.stroke(0, name, 0, 0, 0), -1, 8);
            check.due("0", x.stroke(0, 0, 0, 0, 0), 1);
            check.due("7", x.stroke(0, 7, 0, 0, 0), 2);
        });
        the.test("`x`: 0 to 15", () -> {
            CelHouse x = withKeys(1);
            check.noPoints("x", column -> x.stroke(0, 0, column, 0, 0), -1, 16);
            x.stroke(0, 0, 15, 0, 1);
            x.stroke(0, 1, 0, 0, 2);
            check.due("15, and back to 0", x.of(0, 4), 16);
            check.due("the end at 0", x.point(0, 0, 0), 2);
            check.due("the begin at 15", x.point(0, 15, 0), 2);
        });
        the.test("`y`: 0 to 11", () -> {
            CelHouse x = withKeys(1);
            check.noPoints("y", row -> x.stroke(0, 0, 0, row, 0), -1, 12);
            x.stroke(0, 0, 0, 11, 1);
            x.stroke(0, 1, 0, 0, 2);
            check.due("11, and back to 0", x.of(0, 4), 12);
            check.due("the end at 0", x.point(0, 0, 0), 2);
            check.due("the begin at 11", x.point(0, 0, 11), 2);
        });
        the.test("`colour`: 0 to 7", () -> {
            CelHouse x = withKeys(1);
            check.noPoints("colour", name -> x.stroke(0, 0, 0, 0, name), -1, 8);
            x.stroke(0, 0, 0, 0, 7);
            check.due("7", x.point(0, 0, 0), 7);
            x.stroke(0, 0, 0, 0, 0);
            check.due("0", x.point(0, 0, 0), 0);
        });
        the.test("Returns how many strokes it has then", () -> {
            CelHouse x = withKeys(2);
            check.due("the first", x.stroke(0, 6, 1, 0, 0), 1);
            check.due("the second", x.stroke(0, 2, 2, 0, 0), 2);
            check.due("in place of the first", x.stroke(0, 6, 3, 0, 0), 2);
            check.due("the first of another one", x.stroke(1, 6, 3, 0, 0), 1);
        });
        the.test("Throws `IndexOutOfBoundsException` if there is no such drawing, point or colour name", () -> {
            CelHouse x = withRefusing();
            check.noPoint("no drawing", () -> x.stroke(3, 0, 0, 0, 0));
            check.noPoint("no point", () -> x.stroke(0, 0, 16, 0, 0));
            check.noPoint("no colour name", () -> x.stroke(0, 0, 0, 0, 8));
            check.noPoint("no drawing, no name", () -> x.stroke(3, 8, 0, 0, 0));
            check.noPoint("no point of an in-between", () -> x.stroke(1, 0, 0, 12, 0));
            check.noPoint("no colour name of an approved one, no name", () -> x.stroke(2, 8, 0, 0, -1));
        });
        the.test("Throws `IllegalArgumentException` if name is out of range", () -> {
            CelHouse x = withRefusing();
            check.noRange("of a key", () -> x.stroke(0, 8, 0, 0, 0));
            check.noRange("of an in-between", () -> x.stroke(1, 8, 0, 0, 0));
            check.noRange("of an approved one", () -> x.stroke(2, -1, 0, 0, 0));
            check.due("as before", x.of(0, 0), 1);
        });
        the.test("Throws `IllegalStateException` if it is an in-between, or approved", () -> {
            CelHouse x = withRefusing();
            check.noState("an in-between", () -> x.stroke(1, 0, 0, 0, 0));
            check.noState("an approved one", () -> x.stroke(2, 0, 0, 0, 0));
            check.noState("an approved one's own name", () -> x.stroke(2, 3, 0, 0, 0));
            check.due("as before", x.of(2, 4), 1);
            x.stroke(0, 0, 4, 5, 2);
            check.due("the pen did not move", x.point(0, 4, 4), 2);
            check.due("nor the begin", x.of(0, 4), 3);
            x.approve(2, false);
            check.due("a retake", x.stroke(2, 0, 0, 0, 0), 2);
        });
    }

    private void ofPen() {
        the.in("Promise 5");
        the.test("Moves the pen to a point", () -> {
            CelHouse x = withKeys(1);
            x.pen(3, 2);
            x.pen(5, 4);
            check.due("nothing is drawn", x.of(0, 4), 0);
            x.stroke(0, 0, 5, 5, 1);
            check.due("from there", x.point(0, 5, 4), 1);
            check.due("from there alone", x.of(0, 4), 2);
        });
        the.test("`x`: 0 to 15", () -> {
            CelHouse x = withKeys(1);
            check.noPoints("x", column -> x.pen(column, 3), -1, 16);
            x.stroke(0, 0, 0, 0, 1);
            check.due("it stays", x.of(0, 4), 1);
            Looks.dot(x, 0, 1, 15, 3, 2);
            Looks.dot(x, 0, 2, 0, 3, 3);
            check.due("15", x.point(0, 15, 3), 2);
            check.due("0", x.point(0, 0, 3), 3);
        });
        the.test("`y`: 0 to 11", () -> {
            CelHouse x = withKeys(1);
            check.noPoints("y", row -> x.pen(3, row), -1, 12);
            x.stroke(0, 0, 0, 0, 1);
            check.due("it stays", x.of(0, 4), 1);
            Looks.dot(x, 0, 1, 3, 11, 2);
            Looks.dot(x, 0, 2, 3, 0, 3);
            check.due("11", x.point(0, 3, 11), 2);
            check.due("0", x.point(0, 3, 0), 3);
        });
        the.test("Throws `IndexOutOfBoundsException` if there is no such point", () -> {
            CelHouse x = withKeys(1);
            x.pen(9, 9);
            check.noPoint("too far right", () -> x.pen(16, 11));
            check.noPoint("too far down", () -> x.pen(15, 12));
            check.noPoint("turned around", () -> x.pen(11, 15));
            x.stroke(0, 0, 9, 9, 1);
            check.due("it stays", x.of(0, 4), 1);
        });
    }

    private void ofErase() {
        the.in("Promise 6");
        the.test("Takes a stroke of a key away", () -> {
            CelHouse x = withKeys(2);
            for (int name = 0; name < 8; name++) {
                Looks.dot(x, 0, name, name, 0, name);
                Looks.dot(x, 1, name, name, 0, name);
            }
            for (int name : new int[] {0, 7, 4}) {
                x.erase(0, name);
            }
            check.due("the first, the last and one between", Looks.drawing(x, 0, 9, 1), ".123.56..");
            check.due("not of another key", x.of(1, 0), 8);
            Looks.dot(x, 0, 4, 8, 0, 0);
            Looks.dot(x, 0, 0, 9, 0, 0);
            check.due("the others stay when new ones are drawn", Looks.drawing(x, 0, 10, 1), ".123.56.00");
            for (int name = 0; name < 8; name++) {
                x.erase(0, name);
            }
            check.due("all", x.of(0, 3), 0);
            check.due("the first anew", x.stroke(0, 3, 0, 0, 0), 1);
        });
        the.test("`drawing`: its number", () -> {
            CelHouse x = withKeys(3);
            check.noPoints("drawing", d -> x.erase(d, 0), -1, 3, 15, 16);
            x.stroke(0, 0, 0, 0, 0);
            x.stroke(2, 0, 0, 0, 0);
            check.due("the lowest", x.erase(0, 0), true);
            check.due("the highest", x.erase(2, 0), true);
        });
        the.test("`name`: 0 to 7", () -> {
            CelHouse x = withKeys(1);
            check.noRanges("name", name -> x.erase(0, name), -1, 8);
            x.stroke(0, 0, 0, 0, 0);
            x.stroke(0, 7, 0, 0, 0);
            check.due("0", x.erase(0, 0), true);
            check.due("7", x.erase(0, 7), true);
        });
        the.test("Returns whether it had one with this name", () -> {
            CelHouse x = withKeys(2);
            check.due("an empty key", x.erase(0, 0), false);
            x.stroke(0, 4, 0, 0, 0);
            check.due("another name", x.erase(0, 3), false);
            check.due("a stroke of another key", x.erase(1, 4), false);
            check.due("its name", x.erase(0, 4), true);
            check.due("its name again", x.erase(0, 4), false);
        });
        the.test("Throws `IndexOutOfBoundsException` if there is no such drawing", () -> {
            CelHouse x = new CelHouse();
            check.noPoint("without drawings", () -> x.erase(0, 0));
            x.key();
            check.noPoint("no drawing, no name", () -> x.erase(1, 8));
        });
        the.test("Throws `IllegalArgumentException` if name is out of range", () -> {
            CelHouse x = withRefusing();
            check.noRange("of a key", () -> x.erase(0, 8));
            check.noRange("of an in-between", () -> x.erase(1, -1));
            check.noRange("of an approved one", () -> x.erase(2, 8));
        });
        the.test("Throws `IllegalStateException` if it is an in-between, or approved", () -> {
            CelHouse x = withRefusing();
            check.noState("an in-between", () -> x.erase(1, 3));
            check.noState("an in-between without it", () -> x.erase(1, 0));
            check.noState("an approved one", () -> x.erase(2, 3));
            check.noState("an approved one without it", () -> x.erase(2, 0));
            check.due("as before", x.of(2, 0), 1);
            x.approve(2, false);
            check.due("a retake", x.erase(2, 3), true);
        });
    }

    private void ofPaint() {
        the.in("Promise 7");
        the.test("Paints a key at the pen", () -> {
            CelHouse x = withKeys(1);
            Looks.box(x, 0, 0, 0, 2, 2, 1);
            x.pen(1, 1);
            x.paint(0, 6);
            check.due("there", Looks.drawing(x, 0, 4, 3), "111./161./111.");
            x.pen(15, 11);
            x.paint(0, 5);
            check.due("at the last point", Looks.drawing(x, 0, 4, 3), "1115/1615/1115");
            x.stroke(0, 5, 15, 11, 2);
            check.due("the pen stays where it is", x.of(0, 4), 9);
        });
        the.test("`drawing`: its number", () -> {
            CelHouse x = withKeys(3);
            check.noPoints("drawing", d -> x.paint(d, 0), -1, 3, 15, 16);
            check.due("the lowest", x.paint(0, 0), 1);
            check.due("the highest", x.paint(2, 0), 1);
            check.due("not the one between", x.of(1, 1), 0);
        });
        the.test("`colour`: 0 to 7", () -> {
            CelHouse x = withKeys(1);
            check.noPoints("colour", name -> x.paint(0, name), -1, 8);
            x.paint(0, 7);
            check.due("7", x.point(0, 0, 0), 7);
            x.paint(0, 0);
            check.due("0", x.point(0, 0, 0), 0);
        });
        the.test("Returns how many paints it has then", () -> {
            CelHouse x = withKeys(2);
            for (int i = 1; i <= 6; i++) {
                check.due("at the same point, too", x.paint(0, 3), i);
            }
            check.due("another key", x.paint(1, 3), 1);
        });
        the.test("Throws `IndexOutOfBoundsException` if there is no such drawing or colour name", () -> {
            CelHouse x = withRefusing();
            check.noPoint("no drawing", () -> x.paint(3, 0));
            check.noPoint("no colour name", () -> x.paint(0, 8));
            check.noPoint("no colour name of an in-between", () -> x.paint(1, 8));
            check.noPoint("no colour name of an approved one", () -> x.paint(2, -1));
            for (int i = 0; i < 6; i++) {
                x.paint(0, 0);
            }
            check.noPoint("no colour name of one that has 6", () -> x.paint(0, 8));
        });
        the.test("Throws `IllegalStateException` if it is an in-between, or approved, or has 6", () -> {
            CelHouse x = withRefusing();
            check.noState("an in-between", () -> x.paint(1, 0));
            check.noState("an approved one", () -> x.paint(2, 0));
            check.due("as before", x.of(2, 1), 0);
            for (int i = 0; i < 6; i++) {
                x.paint(0, 2);
            }
            check.noState("one that has 6", () -> x.paint(0, 3));
            check.due("its last paint", x.point(0, 4, 4), 2);
            check.due("six", x.of(0, 1), 6);
            x.approve(2, false);
            check.due("a retake", x.paint(2, 0), 1);
        });
    }

    private void ofGaps() {
        the.in("Promise 8");
        the.test("Closes the gaps of a key, or opens them", () -> {
            CelHouse x = withKeys(2);
            for (int key = 0; key < 2; key++) {
                Looks.dot(x, key, 0, 3, 3, 1);
                Looks.dot(x, key, 1, 3, 5, 1);
            }
            x.gaps(0);
            check.due("closed", x.of(0, 5), 1);
            check.due("not of another key", x.of(1, 5), 0);
            x.gaps(0);
            check.due("open", x.of(0, 5), 0);
        });
        the.test("`drawing`: its number", () -> {
            CelHouse x = withKeys(3);
            check.noPoints("drawing", x::gaps, -1, 3, 15, 16);
            check.due("the lowest", x.gaps(0), true);
            check.due("the highest", x.gaps(2), true);
            check.due("the one between", x.gaps(1), true);
        });
        the.test("Returns whether they are closed then", () -> {
            CelHouse x = withKeys(1);
            check.due("once", x.gaps(0), true);
            check.due("twice", x.gaps(0), false);
            check.due("once more", x.gaps(0), true);
        });
        the.test("Throws `IndexOutOfBoundsException` if there is no such drawing", () -> {
            CelHouse x = new CelHouse();
            check.noPoint("without drawings", () -> x.gaps(0));
            x.key();
            check.noPoint("behind the last one", () -> x.gaps(1));
        });
        the.test("Throws `IllegalStateException` if it is an in-between, or approved", () -> {
            CelHouse x = withRefusing();
            check.noState("an in-between", () -> x.gaps(1));
            check.noState("an approved one", () -> x.gaps(2));
            x.approve(2, false);
            check.due("a retake, as before", x.gaps(2), true);
            x.approve(2, true);
            check.noState("an approved one whose gaps are closed", () -> x.gaps(2));
        });
    }

    private void ofApprove() {
        the.in("Promise 9");
        the.test("Approves a drawing, or takes it again", () -> {
            CelHouse x = withKeys(2);
            x.between(0, 0, 0, 1);
            check.due("not at first", x.of(0, 2), 0);
            x.approve(0, true);
            x.approve(2, true);
            check.due("a key", x.of(0, 2), 1);
            check.due("an in-between", x.of(2, 2), 1);
            check.due("no other one", x.of(1, 2), 0);
            x.approve(0, false);
            check.due("a retake", x.of(0, 2), 0);
            check.due("of that one alone", x.of(2, 2), 1);
        });
        the.test("`drawing`: its number", () -> {
            CelHouse x = withKeys(3);
            check.noPoints("drawing", d -> x.approve(d, true), -1, 3, 15, 16);
            check.noPoints("drawing again", d -> x.approve(d, false), -1, 3, 15, 16);
            check.due("the lowest", x.approve(0, true), 0);
            check.due("the highest", x.approve(2, true), 0);
        });
        the.test("`isGood`: whether it is approved", () -> {
            CelHouse x = withKeys(1);
            x.approve(0, true);
            check.due("good", x.of(0, 2), 1);
        });
        the.test("otherwise it is a retake", () -> {
            CelHouse x = withKeys(1);
            x.approve(0, true);
            x.approve(0, false);
            check.due("a retake", x.of(0, 2), 0);
            check.due("it can be changed", x.stroke(0, 0, 0, 0, 0), 1);
        });
        the.test("Returns how many frames of all scenes hang on it", () -> {
            CelHouse x = withKeys(2);
            x.between(0, 0, 0, 1);
            check.due("without scenes", x.approve(0, true), 0);
            for (int i = 0; i < 6; i++) {
                x.scene(24, 0);
                x.expose(i, i % 4, 0, 2);
                x.expose(i, (i + 1) % 4, 0, 0);
            }
            check.due("all frames of all scenes, each once", x.approve(0, false), 144);
            check.due("by an in-between", x.approve(2, true), 144);
            check.due("none of another one", x.approve(1, true), 0);
            x.expose(5, 0, 23, 1);
            check.due("the last frame of the last scene", x.approve(1, false), 1);
            CelHouse y = withKeys(1);
            y.scene(3, 0);
            y.mouth(0, 0);
            y.voice(0, 0, 0);
            y.voice(0, 1, NONE);
            y.speaks(0, 0);
            check.due("a mouth ahead of the first frame is of none", y.approve(0, true), 0);
            y.voice(0, 2, 0);
            check.due("mouths of the last two frames", y.approve(0, false), 2);
        });
        the.test("Throws `IndexOutOfBoundsException` if there is no such drawing", () -> {
            CelHouse x = new CelHouse();
            check.noPoint("without drawings", () -> x.approve(0, true));
            check.noPoint("without drawings, a retake", () -> x.approve(0, false));
            x.key();
            check.noPoint("behind the last one", () -> x.approve(1, true));
            check.noPoint("behind the last one, a retake", () -> x.approve(1, false));
        });
        the.test("Throws `IllegalStateException` if it is so already", () -> {
            CelHouse x = withKeys(1);
            x.between(0, 0, 0, 1);
            for (int drawing = 0; drawing < 2; drawing++) {
                int asked = drawing;
                check.noState("a retake at first", () -> x.approve(asked, false));
                x.approve(asked, true);
                check.noState("approved twice", () -> x.approve(asked, true));
                check.due("it is still", x.of(asked, 2), 1);
                x.approve(asked, false);
                check.noState("a retake twice", () -> x.approve(asked, false));
                check.due("it is not", x.of(asked, 2), 0);
            }
        });
    }

    private void ofOf() {
        the.in("Promise 23");
        the.test("Tells something of a drawing", () -> {
            CelHouse x = withRefusing();
            check.due("a key", x.of(0, 0), 1);
            check.due("an in-between", x.of(1, 0), 1);
            check.due("an approved one", x.of(2, 2), 1);
        });
        the.test("`drawing`: its number", () -> {
            CelHouse x = withKeys(3);
            check.noPoints("drawing", d -> x.of(d, 0), -1, 3, 15, 16);
            x.paint(0, 0);
            check.due("the lowest", x.of(0, 3), 192);
            check.due("the highest", x.of(2, 3), 0);
        });
        the.test("`what`: 0 how many strokes it has, 1 how many paints, 2 whether it is approved, 1 or 0, "
                + "3 how many points are not clear, 4 how many are lines, 5 how many are walls", () -> {
            CelHouse x = withKeys(1);
            check.noRanges("what", what -> x.of(0, what), -1, 6);
            Looks.line(x, 0, 0, 0, 1, 3, 1, 0);
            Looks.line(x, 0, 1, 0, 3, 1, 3, 2);
            Looks.line(x, 0, 2, 3, 3, 3, 1, 2);
            x.gaps(0);
            Looks.paint(x, 0, 1, 2, 3);
            Looks.paint(x, 0, 3, 1, 3);
            Looks.paint(x, 0, 2, 3, 3);
            Looks.paint(x, 0, 3, 3, 3);
            x.approve(0, true);
            // the walls are (0, 2) and (1, 2), between lines above and below, and (2, 3); (2, 2) is clear
            check.due("the picture", Looks.drawing(x, 0, 5, 4), "...../0002./...2./22.2.");
            check.due("strokes", x.of(0, 0), 3);
            check.due("paints", x.of(0, 1), 4);
            check.due("approved", x.of(0, 2), 1);
            check.due("not clear", x.of(0, 3), 8);
            check.due("lines", x.of(0, 4), 8);
            check.due("walls", x.of(0, 5), 3);
        });
        the.test("3 how many points are not clear", () -> {
            CelHouse x = withKeys(1);
            Looks.box(x, 0, 0, 0, 4, 4, 0);
            check.due("lines alone", x.of(0, 3), 16);
            Looks.paint(x, 0, 1, 1, 0);
            check.due("lines and paints", x.of(0, 3), 25);
            Looks.paint(x, 0, 3, 3, 4);
            check.due("a paint over a paint", x.of(0, 3), 25);
        });
        the.test("Returns the number", () -> {
            CelHouse x = withKeys(1);
            for (int what = 0; what < 6; what++) {
                check.due("of an empty key, " + what, x.of(0, what), 0);
            }
            for (int name = 0; name < 8; name++) {
                Looks.line(x, 0, name, 2 * name, 0, 2 * name, 11, 1);
            }
            x.gaps(0);
            check.due("most strokes", x.of(0, 0), 8);
            check.due("many lines", x.of(0, 4), 96);
            check.due("many walls", x.of(0, 5), 84);
        });
        the.test("Throws `IndexOutOfBoundsException` if there is no such drawing", () -> {
            CelHouse x = new CelHouse();
            check.noPoint("without drawings", () -> x.of(0, 0));
            x.key();
            check.noPoint("behind the last one", () -> x.of(1, 0));
            check.noPoint("behind the last one, and a wrong what", () -> x.of(1, 6));
        });
        the.test("Throws `IllegalArgumentException` if what is out of range", () -> {
            CelHouse x = withRefusing();
            check.noRange("6 of a key", () -> x.of(0, 6));
            check.noRange("-1 of an in-between", () -> x.of(1, -1));
        });
    }

    private void ofPoint() {
        the.in("Promise 24");
        the.test("Returns a point of a drawing", () -> {
            CelHouse x = withRefusing();
            check.due("of a key", x.point(0, 1, 1), 5);
            check.due("of an in-between", x.point(1, 1, 1), 5);
            check.due("of an approved one", x.point(2, 1, 1), 5);
        });
        the.test("`drawing`: its number", () -> {
            CelHouse x = withKeys(3);
            check.noPoints("drawing", d -> x.point(d, 0, 0), -1, 3, 15, 16);
            x.paint(2, 6);
            check.due("the lowest", x.point(0, 0, 0), NONE);
            check.due("the highest", x.point(2, 0, 0), 6);
        });
        the.test("`x`: 0 to 15", () -> {
            CelHouse x = withKeys(1);
            check.noPoints("x", column -> x.point(0, column, 5), -1, 16);
            Looks.dot(x, 0, 0, 0, 5, 2);
            Looks.dot(x, 0, 1, 15, 5, 3);
            check.due("0", x.point(0, 0, 5), 2);
            check.due("15", x.point(0, 15, 5), 3);
        });
        the.test("`y`: 0 to 11", () -> {
            CelHouse x = withKeys(1);
            check.noPoints("y", row -> x.point(0, 5, row), -1, 12);
            Looks.dot(x, 0, 0, 5, 0, 2);
            Looks.dot(x, 0, 1, 5, 11, 3);
            check.due("0", x.point(0, 5, 0), 2);
            check.due("11", x.point(0, 5, 11), 3);
        });
        the.test("Returns the colour name", () -> {
            CelHouse x = withKeys(1);
            Looks.dot(x, 0, 0, 1, 0, 0);
            Looks.paint(x, 0, 0, 0, 7);
            check.due("of a line", x.point(0, 1, 0), 0);
            check.due("of a paint", x.point(0, 2, 0), 7);
            x.colour(0, 7, 99);
            check.due("no palette matters", x.point(0, 2, 0), 7);
        });
        the.test("NONE if it is clear", () -> {
            CelHouse x = withKeys(1);
            check.due("the first", x.point(0, 0, 0), NONE);
            check.due("the last", x.point(0, 15, 11), NONE);
        });
        the.test("Throws `IndexOutOfBoundsException` if there is no such drawing or point", () -> {
            CelHouse x = new CelHouse();
            check.noPoint("without drawings", () -> x.point(0, 0, 0));
            x.key();
            check.noPoint("no drawing", () -> x.point(1, 0, 0));
            check.noPoint("no point", () -> x.point(0, 12, 12));
        });
    }
}
