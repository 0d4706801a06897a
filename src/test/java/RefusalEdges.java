import java.util.ArrayList;
import java.util.Arrays;
import java.util.List;
import java.util.function.Consumer;
import java.util.function.Supplier;

/** The sentences of "What it is", "Terms" and "Exceptions", most of which are of all calls. */
final class RefusalEdges {
    private static final int NONE = CelHouse.NONE, HOLD = CelHouse.HOLD, CYCLE = CelHouse.CYCLE;
    private static final int LEAST = Integer.MIN_VALUE, GREATEST = Integer.MAX_VALUE;
    private static final int FINE = 0, INDEX = 1, ARGUMENT = 2, STATE = 3;
    private static final String[] THROWN = {"nothing", "IndexOutOfBoundsException", "IllegalArgumentException",
        "IllegalStateException"};
    /** With these, and a house's own calls and those of its probe, it stays under its 512. */
    private static final int REFUSED_A_HOUSE = 100;

    private interface Call {
        void on(CelHouse house, int[] numbers);
    }

    /** The numbers that an argument takes, and what is thrown for each of them. */
    private static final class Argument {
        final List<int[]> numbers = new ArrayList<>();

        Argument fine(int... all) {
            return with(FINE, all);
        }

        Argument index(int... all) {
            return with(INDEX, all);
        }

        Argument range(int... all) {
            return with(ARGUMENT, all);
        }

        Argument state(int... all) {
            return with(STATE, all);
        }

        private Argument with(int thrown, int[] all) {
            for (int number : all) {
                numbers.add(new int[] {number, thrown});
            }
            return this;
        }
    }

    private final Sentences the;
    private final Check check;
    private boolean isOfSeveral;
    private Supplier<CelHouse> made;
    private String untouched;

    RefusalEdges(Sentences sentences, Check complaints) {
        the = sentences;
        check = complaints;
    }

    void tell() {
        ofObjects();
        ofTerms();
        ofExceptions();
        ofMixes();
        ofConstants();
    }

    // ---- the houses that refuse

    /** A key 0, an in-between 1, an approved key 2, a key 3 with six paints, two scenes, two pegs, a hand, a film. */
    private static CelHouse inPart() {
        CelHouse x = new CelHouse();
        x.key();
        x.between(0, 0, 1, 2);
        x.key();
        x.key();
        Looks.dot(x, 0, 3, 0, 0, 1);
        x.stroke(0, 5, 2, 0, 2);
        Looks.dot(x, 2, 3, 1, 0, 1);
        Looks.dot(x, 3, 0, 1, 0, 4);
        for (int i = 0; i < 6; i++) {
            x.paint(3, i);
        }
        x.gaps(3);
        x.approve(2, true);
        x.scene(3, 1);
        x.scene(3, 2);
        x.colour(1, 1, 33);
        x.expose(0, 0, 0, 0);
        x.expose(0, 1, 1, 2);
        x.expose(0, 3, 2, CYCLE + 1);
        x.expose(1, 2, 0, 3);
        x.mouth(0, 1);
        x.mouth(4, 2);
        x.mouth(7, 3);
        x.voice(0, 1, 4);
        x.voice(1, 0, 7);
        x.speaks(0, 2);
        x.peg(NONE);
        x.peg(0);
        for (int i = 0; i < 6; i++) {
            x.move(0, i, i, -i);
        }
        x.move(1, 0, 0, 4);
        x.hang(0, 0, 1, 2);
        x.hang(0, 4, 0, 1);
        x.shoot(1);
        x.hand(3);
        x.splice(1);
        x.splice(0);
        x.pen(9, 7);
        return x;
    }

    /** A house that has room for no drawing, scene, peg, hand and scene of the film. */
    private static CelHouse full() {
        CelHouse x = new CelHouse();
        for (int i = 0; i < 16; i++) {
            if (i % 4 == 1) {
                x.between(0, i - 1, 1, 3);
            } else {
                x.key();
            }
        }
        for (int i = 0; i < 11; i++) {
            x.stroke(i < 3 ? 2 * i : 8, i % 8, i, 0, 1);
        }
        for (int i = 0; i < 6; i++) {
            x.scene(i == 0 ? 2 : 1, i % 4);
            x.peg(i - 1);
        }
        for (int i = 0; i < 4; i++) {
            x.hand(i + 1);
        }
        for (int i = 0; i < 10; i++) {
            x.splice(i % 3);
        }
        x.expose(0, 0, 0, 0);
        x.move(0, 0, 1, 1);
        x.hang(0, 0, 5, 1);
        x.pen(9, 7);
        return x;
    }

    // ---- mixes of arguments

    /** Each mix of the numbers for which an exception is due; if it is of several, two unlike ones at least. */
    private void mix(String name, Call call, int always, Argument... arguments) {
        List<int[]> mixes = new ArrayList<>();
        collect(mixes, new int[arguments.length], arguments, 0, 1 << always);
        for (int from = 0; from < mixes.size(); from += REFUSED_A_HOUSE) {
            CelHouse house = made.get();
            for (int[] mix : mixes.subList(from, Math.min(from + REFUSED_A_HOUSE, mixes.size()))) {
                refuse(name, call, house, mix);
            }
            check.due("after refusals of " + name, Probe.difference(Probe.of(house), untouched), "");
        }
        check.due(name + " is refused in some mixes", !mixes.isEmpty() || isOfSeveral, true);
    }

    private void refuse(String name, Call call, CelHouse house, int[] mix) {
        int[] numbers = new int[mix.length - 1];
        StringBuilder told = new StringBuilder(name).append('(');
        for (int i = 0; i < numbers.length; i++) {
            numbers[i] = mix[i];
            told.append(i == 0 ? "" : ", ").append(mix[i]);
        }
        String thrown = Check.thrownBy(() -> call.on(house, numbers));
        check.due(told.append(") throws").toString(), thrown, THROWN[mix[numbers.length]]);
    }

    /** A mix is its numbers, and which exception is due, behind them. */
    private void collect(List<int[]> mixes, int[] numbers, Argument[] arguments, int at, int thrown) {
        if (at < arguments.length) {
            for (int[] number : arguments[at].numbers) {
                numbers[at] = number[0];
                collect(mixes, numbers, arguments, at + 1, thrown | 1 << number[1]);
            }
            return;
        }
        int refusals = thrown & ~1;
        if (Integer.bitCount(refusals) >= (isOfSeveral ? 2 : 1)) {
            int[] mix = Arrays.copyOf(numbers, numbers.length + 1);
            mix[numbers.length] = Integer.numberOfTrailingZeros(refusals);
            mixes.add(mix);
        }
    }

    private void in(Supplier<CelHouse> house) {
        made = house;
        untouched = Probe.of(house.get());
    }

    private static Argument one() {
        return new Argument();
    }

    private static Argument upTo(int end) {
        return one().fine(0, end - 1).index(-1, end, LEAST, GREATEST);
    }

    private static Argument orNone(int end) {
        return one().fine(NONE, 0, end - 1).index(HOLD, end, LEAST, GREATEST);
    }

    private static Argument name() {
        return one().fine(0, 7).range(-1, 8, LEAST, GREATEST);
    }

    private static Argument column() {
        return one().fine(15).index(-1, 16);
    }

    private static Argument row() {
        return one().fine(11).index(-1, 12);
    }

    private static Argument key() {
        return one().fine(0).state(1, 2).index(-1, 4, LEAST, GREATEST);
    }

    private void mixDrawings() {
        Argument colourName = one().fine(0, 7).index(-1, 8, LEAST, GREATEST);
        Argument column = column();
        mix("between", (x, n) -> x.between(n[0], n[1], n[2], n[3]), FINE, upTo(4), upTo(4),
                one().fine(0, 1).range(-1, 25, LEAST, GREATEST), one().fine(1, 24).range(-1, 0, 25, LEAST, GREATEST));
        mix("stroke", (x, n) -> x.stroke(n[0], n[1], n[2], n[3], n[4]), FINE, key(), name(), column, row(), colourName);
        mix("pen", (x, n) -> x.pen(n[0], n[1]), FINE, upTo(16), upTo(12));
        mix("erase", (x, n) -> x.erase(n[0], n[1]), FINE, key(), name());
        mix("paint", (x, n) -> x.paint(n[0], n[1]), FINE, key().state(3), colourName);
        mix("gaps", (x, n) -> x.gaps(n[0]), FINE, key());
        mix("approve", (x, n) -> x.approve(n[0], true), FINE, one().state(2).index(-1, 4, LEAST, GREATEST));
        mix("approve", (x, n) -> x.approve(n[0], false), FINE, one().state(0, 1, 3).index(-1, 4, LEAST, GREATEST));
    }

    private void mixScenes() {
        Argument level = upTo(4);
        mix("colour", (x, n) -> x.colour(n[0], n[1], n[2]), FINE, upTo(4), upTo(8),
                one().fine(1, 99).range(-1, 0, 100, LEAST, GREATEST));
        mix("scene", (x, n) -> x.scene(n[0], n[1]), FINE, one().fine(1, 24).range(-1, 0, 25, LEAST, GREATEST), upTo(4));
        mix("expose", (x, n) -> x.expose(n[0], n[1], n[2], n[3]), FINE, upTo(2), level, one().fine(0, 2).index(-1, 3),
                one().fine(0, NONE, HOLD, 100, 123).index(4, 15).range(-3, 16, 99, 124, LEAST, GREATEST));
        mix("voice", (x, n) -> x.voice(n[0], n[1], n[2]), FINE, upTo(2), one().fine(0, 2).index(-1, 3, LEAST, GREATEST),
                orNone(8));
        mix("mouth", (x, n) -> x.mouth(n[0], n[1]), FINE, upTo(8), orNone(4));
        mix("speaks", (x, n) -> x.speaks(n[0], n[1]), FINE, upTo(2), level);
        mix("peg", (x, n) -> x.peg(n[0]), FINE, orNone(2));
        Argument place = one().fine(-20, 20).range(-21, 21, LEAST, GREATEST);
        mix("move", (x, n) -> x.move(n[0], n[1], n[2], n[3]), FINE, one().fine(1).state(0).index(-1, 2, LEAST, GREATEST),
                one().fine(6, 23).range(-1, 24, LEAST, GREATEST), place, place);
        mix("hang", (x, n) -> x.hang(n[0], n[1], n[2], n[3]), FINE, upTo(2), one().fine(0, 3).index(-1, 5, LEAST, GREATEST),
                orNone(2), one().fine(1, 4).range(-1, 0, 5, LEAST, GREATEST));
        mix("hang, the camera,", (x, n) -> x.hang(n[0], 4, n[1], n[2]), FINE, upTo(2), orNone(2), one().fine(-1, 0, 5));
        mix("shoot", (x, n) -> x.shoot(n[0]), FINE, upTo(2));
        mix("hand", (x, n) -> x.hand(n[0]), FINE, one().fine(1, 9).range(-1, 0, 10, LEAST, GREATEST));
        mix("splice", (x, n) -> x.splice(n[0]), FINE, upTo(2));
    }

    private void mixQuestions() {
        Argument frame = one().fine(0, 2).index(-1, 3, LEAST, GREATEST);
        mix("of", (x, n) -> x.of(n[0], n[1]), FINE, upTo(4), one().fine(0, 5).range(-1, 6, LEAST, GREATEST));
        mix("point", (x, n) -> x.point(n[0], n[1], n[2]), FINE, upTo(4), column(), row());
        mix("has", (x, n) -> x.has(n[0], n[1], n[2]), FINE, upTo(2), upTo(4), frame);
        mix("moved", (x, n) -> x.moved(n[0], n[1], n[2], n[0] == 0), FINE, upTo(2), upTo(4), frame);
        mix("seen", (x, n) -> x.seen(n[0], n[1], n[2], n[3]), FINE, upTo(2), frame, column(), row());
        mix("seenAnew", (x, n) -> x.seenAnew(n[0], n[1], n[2], n[3]), FINE, upTo(2), frame, column(), row());
        mix("shot", (x, n) -> x.shot(n[0], n[1], n[2], n[3]), FINE, upTo(2), frame, column(), row());
        mix("stale", (x, n) -> x.stale(n[0]), FINE, upTo(2));
        mix("hangs", (x, n) -> x.hangs(n[0], n[1], n[2]), FINE, upTo(2), frame, upTo(4));
        mix("faults", (x, n) -> x.faults(n[0], n[1]), FINE, upTo(2), frame);
        mix("hours", (x, n) -> x.hours(n[0]), FINE, upTo(1));
        mix("film", (x, n) -> x.film(n[0]), FINE, upTo(6));
    }

    private void mixWithoutRoom() {
        mix("key", (x, n) -> x.key(), STATE);
        mix("between", (x, n) -> x.between(n[0], n[1], n[2], n[3]), STATE, upTo(16), upTo(16),
                one().fine(1).range(-1, 25), one().fine(1).range(0, 25));
        mix("scene", (x, n) -> x.scene(n[0], n[1]), STATE, one().fine(1).range(0, 25), upTo(4));
        mix("peg", (x, n) -> x.peg(n[0]), STATE, orNone(6));
        mix("hand", (x, n) -> x.hand(n[0]), STATE, one().fine(1, 9).range(0, 10, LEAST, GREATEST));
        mix("splice", (x, n) -> x.splice(n[0]), STATE, upTo(6));
    }

    private void ofMixes() {
        the.test("If several apply, the one that is named first in the throws clause is thrown", () -> {
            isOfSeveral = true;
            mixAll();
        });
        the.test("A call that throws an exception changes nothing", () -> {
            isOfSeveral = false;
            mixAll();
        });
    }

    private void mixAll() {
        in(RefusalEdges::inPart);
        mixDrawings();
        mixScenes();
        mixQuestions();
        in(RefusalEdges::full);
        mixWithoutRoom();
    }

    // ---- sentences of their own

    private void ofObjects() {
        the.in("What it is");
        the.test("An object is used for at most 512 calls after it has been made", () -> {
            CelHouse x = new CelHouse();
            for (int i = 0; i < 511; i++) {
                check.noPoint("call " + (i + 1), () -> x.of(0, 0));
            }
            check.due("the 512th call", x.key(), 0);
            // 57 calls have made the full one
            CelHouse y = full();
            for (int i = 57; i < 511; i++) {
                y.stroke(i % 2 == 0 ? 0 : 4, i % 8, i % 16, i % 12, i % 8);
            }
            check.due("the 512th call of a full one", y.shoot(0), 2);
        });
    }

    private void ofTerms() {
        the.in("Terms");
        the.test("Each frame is a function of sheets, drawings and palettes, of voices and mouths, of pegs and the camera", () -> {
            CelHouse x = inPart();
            CelHouse y = inPart();
            y.shoot(0);
            y.hand(9);
            y.cut();
            y.approve(0, true);
            y.approve(2, false);
            y.pen(0, 0);
            y.colour(1, 1, 5);
            y.expose(0, 0, 0, NONE);
            y.mouth(4, 3);
            y.move(0, 0, 20, 20);
            y.hang(0, 4, 1, 1);
            y.colour(1, 1, 33);
            y.expose(0, 0, 0, 0);
            y.mouth(4, 2);
            y.move(0, 0, 0, 0);
            y.hang(0, 4, 0, 1);
            for (int frame = 0; frame < 3; frame++) {
                check.due("changed, and changed back", Looks.frame(y, 0, frame, 10, 5), Looks.frame(x, 0, frame, 10, 5));
            }
        });
        the.test("Questions change nothing", () -> {
            CelHouse x = inPart();
            CelHouse y = inPart();
            for (int i = 0; i < 12; i++) {
                askAll(x, i % 3, i);
                askAll(y, i % 3, i);
            }
            check.due("questions after questions", Probe.difference(Probe.of(x), Probe.of(inPart())), "");
            String untouched = Probe.byCallsAlone(inPart());
            check.due("calls after questions", Probe.difference(Probe.byCallsAlone(y), untouched), "");
        });
        the.test("All numbers are whole", () -> {
            CelHouse x = new CelHouse();
            x.key();
            x.key();
            Looks.dot(x, 0, 0, 0, 0, 1);
            Looks.dot(x, 1, 0, 1, 1, 1);
            x.between(0, 1, 12, 24);
            x.between(2, 1, 12, 24);
            check.due("half of one is 0", x.point(2, 0, 0), 1);
            check.due("a half is not kept", x.point(3, 0, 0), 1);
            x.scene(3, 0);
            x.peg(NONE);
            x.peg(0);
            x.move(0, 0, 0, 0);
            x.move(0, 2, 1, 1);
            x.move(1, 0, 0, 0);
            x.move(1, 2, 1, 1);
            x.hang(0, 0, 1, 1);
            check.due("two halves are 0", x.moved(0, 0, 1, true), 0);
        });
        the.test("where something is divided, it is rounded towards 0", this::divisions);
    }

    private void divisions() {
        CelHouse x = new CelHouse();
        x.key();
        x.key();
        Looks.dot(x, 0, 0, 10, 10, 1);
        Looks.dot(x, 1, 0, 3, 3, 1);
        x.between(0, 1, 1, 2);
        x.between(1, 0, 1, 2);
        check.due("-7 / 2 of an in-between", x.point(2, 7, 7), 1);
        check.due("7 / 2 of an in-between", x.point(3, 6, 6), 1);
        x.key();
        Looks.line(x, 4, 0, 0, 5, 2, 4, 1);
        Looks.line(x, 4, 1, 5, 4, 7, 5, 1);
        check.due("-1 / 2 of a stroke", x.point(4, 1, 5), 1);
        check.due("1 / 2 of a stroke", x.point(4, 6, 4), 1);
        x.scene(3, 0);
        x.peg(NONE);
        x.move(0, 0, 1, -1);
        x.move(0, 2, -2, 2);
        x.hang(0, 0, 0, 1);
        check.due("-3 / 2 of a peg", x.moved(0, 0, 1, true), 0);
        check.due("3 / 2 of a peg", x.moved(0, 0, 1, false), 0);
        x.hang(0, 4, 0, 1);
        x.hang(0, 0, NONE, 4);
        check.due("1 / 4 of the camera", x.moved(0, 0, 0, true), 0);
        check.due("-1 / 4 of the camera", x.moved(0, 0, 0, false), 0);
        x.hang(0, 0, NONE, 3);
        x.move(0, 2, -5, 5);
        check.due("-5 / 3 of the camera", x.moved(0, 0, 2, true), 1);
        check.due("5 / 3 of the camera", x.moved(0, 0, 2, false), -1);
    }

    private static void askAll(CelHouse x, int frame, int i) {
        x.of(i % 4, i % 6);
        x.point(i % 4, i, i);
        x.has(0, i % 4, frame);
        x.moved(0, i % 4, frame, i % 2 == 0);
        x.seen(0, frame, i, 0);
        x.seenAnew(0, frame, i, 0);
        x.shot(0, frame, i, 0);
        x.stale(i % 2);
        x.hangs(0, frame, i % 4);
        x.faults(0, frame);
        x.hours(0);
        x.film(i % 4);
    }

    private void ofExceptions() {
        the.in("Exceptions");
        the.test("IndexOutOfBoundsException: there is no such drawing, scene, level, frame, peg, palette, colour name, "
                + "sound, hand or point", () -> {
            CelHouse x = inPart();
            check.noPoints("drawing", drawing -> x.of(drawing, 0), -1, 4);
            check.noPoints("scene", x::stale, -1, 2);
            check.noPoints("level", level -> x.has(0, level, 0), -1, 4);
            check.noPoints("frame", frame -> x.has(0, 0, frame), -1, 3);
            check.noPoints("frame of the film", x::film, -1, 6);
            check.noPoints("peg", peg -> x.move(peg, 0, 0, 0), -1, 2);
            check.noPoints("palette", palette -> x.scene(1, palette), -1, 4);
            check.noPoints("colour name", name -> x.colour(0, name, 1), -1, 8);
            check.noPoints("sound", sound -> x.mouth(sound, 0), -1, 8);
            check.noPoints("hand", x::hours, -1, 1);
            check.noPoints("point's x", column -> x.pen(column, 0), -1, 16);
            check.noPoints("point's y", row -> x.pen(0, row), -1, 12);
        });
        the.test("IllegalArgumentException: another argument is out of its range", () -> {
            CelHouse x = inPart();
            check.noRanges("n", n -> x.between(0, 0, n, 24), -1, 25);
            check.noRanges("d", d -> x.between(0, 0, 0, d), 0, 25);
            check.noRanges("a stroke's name", name -> x.stroke(0, name, 0, 0, 0), -1, 8);
            check.noRanges("a name to be erased", name -> x.erase(0, name), -1, 8);
            check.noRanges("a colour", colour -> x.colour(0, 0, colour), 0, 100);
            check.noRanges("frames", frames -> x.scene(frames, 0), 0, 25);
            check.noRanges("what of a sheet", what -> x.expose(0, 0, 0, what), -3, 16, 99, 124);
            check.noRanges("a peg's frame", frame -> x.move(1, frame, 0, 0), -1, 24);
            check.noRanges("a peg's x", left -> x.move(1, 0, left, 0), -21, 21);
            check.noRanges("a peg's y", down -> x.move(1, 0, 0, down), -21, 21);
            check.noRanges("depth", depth -> x.hang(0, 0, 0, depth), 0, 5);
            check.noRanges("speed", x::hand, 0, 10);
            check.noRanges("what of a drawing", what -> x.of(0, what), -1, 6);
        });
        the.test("IllegalStateException: as the method tells", () -> {
            List<Consumer<CelHouse>> calls = List.of(CelHouse::key, x -> x.between(0, 0, 0, 1), x -> x.scene(1, 0),
                    x -> x.peg(NONE), x -> x.hand(1), x -> x.splice(0), x -> x.gaps(1), x -> x.approve(0, false));
            CelHouse x = full();
            for (Consumer<CelHouse> call : calls) {
                check.noState("call " + calls.indexOf(call) + " without room", () -> call.accept(x));
            }
            CelHouse y = inPart();
            for (int drawing = 1; drawing < 3; drawing++) {
                int asked = drawing;
                check.noState("stroke", () -> y.stroke(asked, 0, 0, 0, 0));
                check.noState("erase", () -> y.erase(asked, 0));
                check.noState("paint", () -> y.paint(asked, 0));
                check.noState("gaps", () -> y.gaps(asked));
            }
            check.noState("a seventh paint", () -> y.paint(3, 0));
            check.noState("a seventh place", () -> y.move(0, 6, 0, 0));
            check.noState("approved already", () -> y.approve(2, true));
        });
    }

    private void ofConstants() {
        the.test("The constants: `NONE = -1`: There is none", () -> {
            CelHouse x = inPart();
            check.due("NONE", NONE, -1);
            check.due("no mouth", x.mouth(1, NONE), NONE);
            check.due("no colour name", x.point(0, 15, 11), NONE);
            check.due("no colour", x.shot(0, 0, 0, 0), NONE);
            check.due("no peg", x.peg(NONE), 2);
        });
        the.test("blank", () -> {
            CelHouse x = inPart();
            check.due("at first", x.has(0, 3, 0), NONE);
            x.expose(0, 0, 2, NONE);
            check.due("told", x.has(0, 0, 2), NONE);
            check.due("told there", x.expose(0, 0, 2, 0), NONE);
        });
        the.test("silence", () -> {
            CelHouse x = inPart();
            check.due("at first", x.voice(0, 0, NONE), NONE);
            check.due("told", x.voice(0, 0, 1), NONE);
        });
        the.test("`HOLD = -2, CYCLE = 99`: In sheets: nothing new", () -> {
            CelHouse x = inPart();
            check.due("HOLD", HOLD, -2);
            check.due("at first", x.expose(0, 0, 2, HOLD), HOLD);
            check.due("told", x.expose(0, 0, 2, HOLD), HOLD);
            check.due("as the frame ahead", x.has(0, 0, 2), 0);
        });
        the.test("99 and k is a cycle of k", () -> {
            CelHouse x = inPart();
            check.due("CYCLE", CYCLE, 99);
            x.expose(0, 0, 1, 1);
            x.expose(0, 0, 2, 101);
            check.due("a cycle of 2", x.has(0, 0, 2), 0);
            x.expose(0, 0, 2, 100);
            check.due("a cycle of 1", x.has(0, 0, 2), 1);
            x.expose(0, 0, 2, 102);
            check.due("a cycle of 3", x.has(0, 0, 2), NONE);
            check.noRange("a cycle of 0", () -> x.expose(0, 0, 2, CYCLE));
        });
    }
}
