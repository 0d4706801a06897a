import java.util.Arrays;

/** A house of drawn animation; ../shared/DOC.md says what each call does. */
public final class CelHouse {
    public static final int NONE = -1;
    public static final int HOLD = -2, CYCLE = 99;

    private static final int COLUMNS = 16, ROWS = 12, POINTS = COLUMNS * ROWS;
    private static final int MOST_DRAWINGS = 16, MOST_STROKES = 8, MOST_PAINTS = 6;
    private static final int STROKE_NAMES = 8, COLOUR_NAMES = 8, PALETTES = 4, HIGHEST_COLOUR = 99;
    private static final int MOST_SCENES = 6, MOST_FRAMES = 24, LEVELS = 4, CAMERA = 4;
    private static final int SOUNDS = 8, UNTOLD = -3;
    private static final int MOST_PEGS = 6, MOST_PLACES = 6, FURTHEST = 20, DEEPEST = 4;
    private static final int MOST_HANDS = 4, FASTEST = 9, MOST_SPLICES = 10, MOST_PARTS = 24;

    private final Drawing[] drawings;
    private int drawingCount;
    private int penX, penY;
    private final int[] paletteColours;
    private final Scene[] scenes;
    private int sceneCount;
    private final int[] mouths;
    private final Peg[] pegs;
    private int pegCount;
    private final int[] speeds;
    private int handCount;
    private final int[] busyUntil;
    private final int[] splices;
    private int spliceCount;
    private final int[] composed;
    private final Picture sketch;
    private final Fill fill;

    public CelHouse() {
        drawings = new Drawing[MOST_DRAWINGS];
        paletteColours = new int[PALETTES * COLOUR_NAMES];
        for (int i = 0; i < paletteColours.length; i++) {
            paletteColours[i] = i % COLOUR_NAMES + 1;
        }
        scenes = new Scene[MOST_SCENES];
        mouths = new int[SOUNDS];
        Arrays.fill(mouths, NONE);
        pegs = new Peg[MOST_PEGS];
        speeds = new int[MOST_HANDS];
        busyUntil = new int[MOST_HANDS];
        splices = new int[MOST_SPLICES];
        composed = new int[POINTS];
        sketch = new Picture();
        fill = new Fill();
    }

    // ---- drawings

    public int key() throws IllegalStateException {
        needRoomForDrawing();
        drawings[drawingCount] = new Drawing(null, null, 0, 1, 0);
        return drawingCount++;
    }

    public int between(int a, int b, int n, int d)
            throws IndexOutOfBoundsException, IllegalArgumentException, IllegalStateException {
        needDrawing(a);
        needDrawing(b);
        if (d < 1 || d > MOST_PARTS || n < 0 || n > d) {
            throw new IllegalArgumentException("n is 0 to d, d is 1 to 24");
        }
        needRoomForDrawing();
        Drawing first = drawings[a];
        Drawing second = drawings[b];
        int hangsOn = 1 << a | 1 << b | first.hangsOn | second.hangsOn;
        Drawing made = new Drawing(first, second, n, d, hangsOn);
        made.follow();
        drawings[drawingCount] = made;
        return drawingCount++;
    }

    public int stroke(int drawing, int name, int x, int y, int colour)
            throws IndexOutOfBoundsException, IllegalArgumentException, IllegalStateException {
        needDrawing(drawing);
        needPoint(x, y);
        needColourName(colour);
        needStrokeName(name);
        needChangeable(drawing);
        drawings[drawing].strokeToDraw(name).set(penX, penY, x, y, colour);
        penX = x;
        penY = y;
        letAllFollow(drawing);
        return drawings[drawing].strokeCount;
    }

    public void pen(int x, int y) throws IndexOutOfBoundsException {
        needPoint(x, y);
        penX = x;
        penY = y;
    }

    public boolean erase(int drawing, int name)
            throws IndexOutOfBoundsException, IllegalArgumentException, IllegalStateException {
        needDrawing(drawing);
        needStrokeName(name);
        needChangeable(drawing);
        boolean hadOne = drawings[drawing].takeStroke(name);
        letAllFollow(drawing);
        return hadOne;
    }

    public int paint(int drawing, int colour) throws IndexOutOfBoundsException, IllegalStateException {
        needDrawing(drawing);
        needColourName(colour);
        needChangeable(drawing);
        Drawing painted = drawings[drawing];
        if (painted.paintCount >= MOST_PAINTS) {
            throw new IllegalStateException("it has 6 paints");
        }
        painted.addPaint(placeOf(penX, penY), colour);
        letAllFollow(drawing);
        return painted.paintCount;
    }

    public boolean gaps(int drawing) throws IndexOutOfBoundsException, IllegalStateException {
        needDrawing(drawing);
        needChangeable(drawing);
        Drawing changed = drawings[drawing];
        changed.isClosed = !changed.isClosed;
        letAllFollow(drawing);
        return changed.isClosed;
    }

    public int approve(int drawing, boolean isGood) throws IndexOutOfBoundsException, IllegalStateException {
        needDrawing(drawing);
        if (drawings[drawing].isApproved == isGood) {
            throw new IllegalStateException("it is so already");
        }
        drawings[drawing].isApproved = isGood;
        return framesHangingOn(drawing);
    }

    // ---- palettes, scenes, sheets

    public int colour(int palette, int name, int colour)
            throws IndexOutOfBoundsException, IllegalArgumentException {
        needPalette(palette);
        needColourName(name);
        if (colour < 1 || colour > HIGHEST_COLOUR) {
            throw new IllegalArgumentException("a colour is 1 to 99");
        }
        int place = palette * COLOUR_NAMES + name;
        int before = paletteColours[place];
        paletteColours[place] = colour;
        return before;
    }

    public int scene(int frames, int palette)
            throws IndexOutOfBoundsException, IllegalArgumentException, IllegalStateException {
        needPalette(palette);
        if (frames < 1 || frames > MOST_FRAMES) {
            throw new IllegalArgumentException("a scene has 1 to 24 frames");
        }
        if (sceneCount >= MOST_SCENES) {
            throw new IllegalStateException("there are 6 scenes");
        }
        scenes[sceneCount] = new Scene(frames, palette);
        return sceneCount++;
    }

    public int expose(int scene, int level, int frame, int what)
            throws IndexOutOfBoundsException, IllegalArgumentException {
        needScene(scene);
        needLevel(level);
        needFrame(scene, frame);
        if (what >= 0 && what < MOST_DRAWINGS) {
            needDrawing(what);
        } else if (what != NONE && what != HOLD && (what <= CYCLE || what > CYCLE + MOST_FRAMES)) {
            throw new IllegalArgumentException("no drawing, blank, hold or cycle");
        }
        Scene told = scenes[scene];
        int place = level * told.frames + frame;
        int before = told.sheets[place];
        told.sheets[place] = what;
        return before;
    }

    public int voice(int scene, int frame, int sound) throws IndexOutOfBoundsException {
        needScene(scene);
        needFrame(scene, frame);
        if (sound != NONE) {
            needSound(sound);
        }
        int before = scenes[scene].soundAt(frame);
        scenes[scene].sounds[frame] = sound;
        return before;
    }

    public int mouth(int sound, int drawing) throws IndexOutOfBoundsException {
        needSound(sound);
        if (drawing != NONE) {
            needDrawing(drawing);
        }
        int before = mouths[sound];
        mouths[sound] = drawing;
        return before;
    }

    public boolean speaks(int scene, int level) throws IndexOutOfBoundsException {
        needScene(scene);
        needLevel(level);
        boolean[] isOfVoice = scenes[scene].isOfVoice;
        isOfVoice[level] = !isOfVoice[level];
        return isOfVoice[level];
    }

    // ---- pegs, camera

    public int peg(int by) throws IndexOutOfBoundsException, IllegalStateException {
        if (by != NONE) {
            needPeg(by);
        }
        if (pegCount >= MOST_PEGS) {
            throw new IllegalStateException("there are 6 pegs");
        }
        pegs[pegCount] = new Peg(by == NONE ? null : pegs[by]);
        return pegCount++;
    }

    public int move(int peg, int frame, int x, int y)
            throws IndexOutOfBoundsException, IllegalArgumentException, IllegalStateException {
        needPeg(peg);
        if (frame < 0 || frame >= MOST_FRAMES) {
            throw new IllegalArgumentException("a frame is 0 to 23");
        }
        if (x < -FURTHEST || x > FURTHEST || y < -FURTHEST || y > FURTHEST) {
            throw new IllegalArgumentException("x and y are -20 to 20");
        }
        Peg moving = pegs[peg];
        if (!moving.isTold[frame] && moving.toldCount >= MOST_PLACES) {
            throw new IllegalStateException("6 others were told");
        }
        moving.tell(frame, x, y);
        return moving.toldCount;
    }

    public void hang(int scene, int level, int peg, int depth)
            throws IndexOutOfBoundsException, IllegalArgumentException {
        needScene(scene);
        if (level != CAMERA) {
            needLevel(level);
        }
        if (peg != NONE) {
            needPeg(peg);
        }
        if (level != CAMERA && (depth < 1 || depth > DEEPEST)) {
            throw new IllegalArgumentException("a depth is 1 to 4");
        }
        Peg carrier = peg == NONE ? null : pegs[peg];
        if (level == CAMERA) {
            scenes[scene].camera = carrier;
        } else {
            scenes[scene].pegs[level] = carrier;
            scenes[scene].depths[level] = depth;
        }
    }

    // ---- shots, hands, the film

    public int shoot(int scene) throws IndexOutOfBoundsException {
        needScene(scene);
        Scene kept = scenes[scene];
        int count = 0;
        for (int frame = 0; frame < kept.frames; frame++) {
            compose(kept, frame);
            if (!kept.isAsShot(frame, composed)) {
                kept.keep(frame, composed);
                count++;
            }
        }
        return count;
    }

    public int hand(int speed) throws IllegalArgumentException, IllegalStateException {
        if (speed < 1 || speed > FASTEST) {
            throw new IllegalArgumentException("a speed is 1 to 9");
        }
        if (handCount >= MOST_HANDS) {
            throw new IllegalStateException("there are 4 hands");
        }
        speeds[handCount] = speed;
        return handCount++;
    }

    public int splice(int scene) throws IndexOutOfBoundsException, IllegalStateException {
        needScene(scene);
        if (spliceCount >= MOST_SPLICES) {
            throw new IllegalStateException("the film has 10 scenes");
        }
        splices[spliceCount] = scene;
        spliceCount++;
        return filmLength();
    }

    public int cut() {
        int before = filmLength();
        spliceCount = 0;
        return before;
    }

    // ---- what is asked

    public int of(int drawing, int what) throws IndexOutOfBoundsException, IllegalArgumentException {
        needDrawing(drawing);
        Drawing asked = drawings[drawing];
        switch (what) {
            case 0:
                return asked.strokeCount;
            case 1:
                return asked.paintCount;
            case 2:
                return asked.isApproved ? 1 : 0;
            case 3:
                return pictureOf(asked).countPainted();
            case 4:
                return pictureOf(asked).countLines();
            case 5:
                return pictureOf(asked).countWalls();
            default:
                throw new IllegalArgumentException("what is 0 to 5");
        }
    }

    public int point(int drawing, int x, int y) throws IndexOutOfBoundsException {
        needDrawing(drawing);
        needPoint(x, y);
        return pictureOf(drawings[drawing]).points[placeOf(x, y)];
    }

    public int has(int scene, int level, int frame) throws IndexOutOfBoundsException {
        needScene(scene);
        needLevel(level);
        needFrame(scene, frame);
        return drawingAt(scenes[scene], level, frame);
    }

    public int moved(int scene, int level, int frame, boolean inX) throws IndexOutOfBoundsException {
        needScene(scene);
        needLevel(level);
        needFrame(scene, frame);
        return scenes[scene].shiftOf(level, frame, inX);
    }

    public int seen(int scene, int frame, int x, int y) throws IndexOutOfBoundsException {
        needScene(scene);
        needFrame(scene, frame);
        needPoint(x, y);
        compose(scenes[scene], frame);
        return composed[placeOf(x, y)];
    }

    public int seenAnew(int scene, int frame, int x, int y) throws IndexOutOfBoundsException {
        needScene(scene);
        needFrame(scene, frame);
        needPoint(x, y);
        Scene asked = scenes[scene];
        for (int level = LEVELS - 1; level >= 0; level--) {
            int drawing = drawingAt(asked, level, frame);
            int fromX = x - asked.shiftOf(level, frame, true);
            int fromY = y - asked.shiftOf(level, frame, false);
            int name = drawing == NONE ? NONE : plainPoint(drawings[drawing], fromX, fromY);
            if (name != NONE) {
                return paletteColours[asked.palette * COLOUR_NAMES + name];
            }
        }
        return 0;
    }

    public int shot(int scene, int frame, int x, int y) throws IndexOutOfBoundsException {
        needScene(scene);
        needFrame(scene, frame);
        needPoint(x, y);
        return scenes[scene].shots[frame * POINTS + placeOf(x, y)];
    }

    public int stale(int scene) throws IndexOutOfBoundsException {
        needScene(scene);
        Scene asked = scenes[scene];
        int count = 0;
        for (int frame = 0; frame < asked.frames; frame++) {
            compose(asked, frame);
            if (!asked.isAsShot(frame, composed)) {
                count++;
            }
        }
        return count;
    }

    public boolean hangs(int scene, int frame, int drawing) throws IndexOutOfBoundsException {
        needScene(scene);
        needFrame(scene, frame);
        needDrawing(drawing);
        return frameHangsOn(scenes[scene], frame, drawing);
    }

    public int faults(int scene, int frame) throws IndexOutOfBoundsException {
        needScene(scene);
        needFrame(scene, frame);
        Scene asked = scenes[scene];
        int sum = 0;
        if (hasEmptyDrawing(asked, frame)) {
            sum += 1;
        }
        if (hasFlash(asked, frame)) {
            sum += 2;
        }
        compose(asked, frame);
        if (isComposedEmpty()) {
            sum += 4;
        }
        return sum;
    }

    public int hours(int hand) throws IndexOutOfBoundsException {
        if (hand < 0 || hand >= handCount) {
            throw new IndexOutOfBoundsException("no such hand");
        }
        Arrays.fill(busyUntil, 0);
        for (int i = 0; i < drawingCount; i++) {
            int strokes = drawings[i].strokeCount;
            if (drawings[i].isKey() && strokes > 0) {
                int free = firstFree();
                int speed = Math.max(1, speeds[free]);
                busyUntil[free] += (strokes + speed - 1) / speed;
            }
        }
        return busyUntil[hand];
    }

    public int film(int frame) throws IndexOutOfBoundsException {
        if (frame < 0 || frame >= filmLength()) {
            throw new IndexOutOfBoundsException("no such frame of the film");
        }
        int left = frame;
        int at = 0;
        while (at < spliceCount - 1 && left >= scenes[splices[at]].frames) {
            left -= scenes[splices[at]].frames;
            at++;
        }
        return 100 * splices[at] + left;
    }

    // ---- what must be so, or the call is refused

    private void needRoomForDrawing() {
        if (drawingCount >= MOST_DRAWINGS) {
            throw new IllegalStateException("there are 16 drawings");
        }
    }

    private void needDrawing(int drawing) {
        if (drawing < 0 || drawing >= drawingCount) {
            throw new IndexOutOfBoundsException("no such drawing");
        }
    }

    private void needChangeable(int drawing) {
        if (!drawings[drawing].isKey() || drawings[drawing].isApproved) {
            throw new IllegalStateException("an in-between, or approved");
        }
    }

    private static void needPoint(int x, int y) {
        if (!isPoint(x, y)) {
            throw new IndexOutOfBoundsException("no such point");
        }
    }

    private static void needColourName(int name) {
        if (name < 0 || name >= COLOUR_NAMES) {
            throw new IndexOutOfBoundsException("no such colour name");
        }
    }

    private static void needStrokeName(int name) {
        if (name < 0 || name >= STROKE_NAMES) {
            throw new IllegalArgumentException("a name is 0 to 7");
        }
    }

    private static void needPalette(int palette) {
        if (palette < 0 || palette >= PALETTES) {
            throw new IndexOutOfBoundsException("no such palette");
        }
    }

    private void needScene(int scene) {
        if (scene < 0 || scene >= sceneCount) {
            throw new IndexOutOfBoundsException("no such scene");
        }
    }

    private static void needLevel(int level) {
        if (level < 0 || level >= LEVELS) {
            throw new IndexOutOfBoundsException("no such level");
        }
    }

    private void needFrame(int scene, int frame) {
        if (frame < 0 || frame >= scenes[scene].frames) {
            throw new IndexOutOfBoundsException("no such frame");
        }
    }

    private static void needSound(int sound) {
        if (sound < 0 || sound >= SOUNDS) {
            throw new IndexOutOfBoundsException("no such sound");
        }
    }

    private void needPeg(int peg) {
        if (peg < 0 || peg >= pegCount) {
            throw new IndexOutOfBoundsException("no such peg");
        }
    }

    // ---- points and parts

    private static boolean isPoint(int x, int y) {
        return x >= 0 && x < COLUMNS && y >= 0 && y < ROWS;
    }

    private static int placeOf(int x, int y) {
        return y * COLUMNS + x;
    }

    /** Strokes, in-betweens and pegs all go from one number to another one in this way. */
    private static int partWay(int from, int to, int n, int d) {
        return d == 0 ? from : from + n * (to - from) / d;
    }

    // ---- drawings and their pictures

    /** In-betweens hang on lower drawings alone, so that rising numbers bring all of them up to date. */
    private void letAllFollow(int changed) {
        drawings[changed].isPictured = false;
        for (int i = changed + 1; i < drawingCount; i++) {
            if (drawings[i].hangsOnNumber(changed)) {
                drawings[i].follow();
            }
        }
    }

    private Picture pictureOf(Drawing drawing) {
        if (!drawing.isPictured) {
            drawing.picture.drawOutline(drawing);
            drawing.picture.paintAll(drawing, fill);
            drawing.isPictured = true;
        }
        return drawing.picture;
    }

    /** Finds one point without the kept picture: the last paint that the point can come to has filled it. */
    private int plainPoint(Drawing drawing, int x, int y) {
        if (!isPoint(x, y)) {
            return NONE;
        }
        for (int i = drawing.strokeCount - 1; i >= 0; i--) {
            if (drawing.strokes[i].covers(x, y)) {
                return drawing.strokes[i].colourName;
            }
        }
        if (drawing.paintCount == 0) {
            return NONE;
        }
        sketch.drawOutline(drawing);
        fill.spread(sketch, placeOf(x, y));
        for (int i = drawing.paintCount - 1; i >= 0; i--) {
            if (fill.reached[drawing.paintPlaces[i]] == 1) {
                return drawing.paintColours[i];
            }
        }
        return NONE;
    }

    // ---- frames

    private int drawingAt(Scene scene, int level, int frame) {
        if (!scene.isOfVoice[level]) {
            return scene.drawingOnSheet(level, frame);
        }
        int sound = scene.soundAt(Math.min(frame + 1, scene.frames - 1));
        return sound == NONE ? NONE : mouths[sound];
    }

    private void compose(Scene scene, int frame) {
        Arrays.fill(composed, 0);
        for (int level = 0; level < LEVELS; level++) {
            int drawing = drawingAt(scene, level, frame);
            if (drawing != NONE) {
                int shiftX = scene.shiftOf(level, frame, true);
                int shiftY = scene.shiftOf(level, frame, false);
                layOver(pictureOf(drawings[drawing]), shiftX, shiftY, scene.palette);
            }
        }
    }

    private void layOver(Picture picture, int shiftX, int shiftY, int palette) {
        int place = 0;
        for (int y = 0; y < ROWS; y++) {
            for (int x = 0; x < COLUMNS; x++) {
                int name = picture.points[place];
                if (name != NONE && isPoint(x + shiftX, y + shiftY)) {
                    composed[placeOf(x + shiftX, y + shiftY)] = paletteColours[palette * COLOUR_NAMES + name];
                }
                place++;
            }
        }
    }

    private boolean isComposedEmpty() {
        for (int i = 0; i < POINTS; i++) {
            if (composed[i] != 0) {
                return false;
            }
        }
        return true;
    }

    private boolean frameHangsOn(Scene scene, int frame, int drawing) {
        for (int level = 0; level < LEVELS; level++) {
            int there = drawingAt(scene, level, frame);
            if (there != NONE && (there == drawing || drawings[there].hangsOnNumber(drawing))) {
                return true;
            }
        }
        return false;
    }

    private int framesHangingOn(int drawing) {
        int count = 0;
        for (int i = 0; i < sceneCount; i++) {
            for (int frame = 0; frame < scenes[i].frames; frame++) {
                if (frameHangsOn(scenes[i], frame, drawing)) {
                    count++;
                }
            }
        }
        return count;
    }

    private boolean hasEmptyDrawing(Scene scene, int frame) {
        for (int level = 0; level < LEVELS; level++) {
            int drawing = drawingAt(scene, level, frame);
            if (drawing != NONE && drawings[drawing].strokeCount == 0) {
                return true;
            }
        }
        return false;
    }

    /** The first and the last frame have a blank, or nothing, at one side, so that they cannot flash. */
    private boolean hasFlash(Scene scene, int frame) {
        if (frame == 0 || frame == scene.frames - 1) {
            return false;
        }
        for (int level = 0; level < LEVELS; level++) {
            int ahead = drawingAt(scene, level, frame - 1);
            if (ahead != NONE && ahead == drawingAt(scene, level, frame + 1)
                    && ahead != drawingAt(scene, level, frame)) {
                return true;
            }
        }
        return false;
    }

    // ---- hands and the film

    private int firstFree() {
        int free = 0;
        for (int i = 1; i < handCount; i++) {
            if (busyUntil[i] < busyUntil[free]) {
                free = i;
            }
        }
        return free;
    }

    private int filmLength() {
        int length = 0;
        for (int i = 0; i < spliceCount; i++) {
            length += scenes[splices[i]].frames;
        }
        return length;
    }

    private static final class Stroke {
        int name;
        int fromX, fromY, toX, toY;
        int colourName;

        void set(int newFromX, int newFromY, int newToX, int newToY, int newColourName) {
            fromX = newFromX;
            fromY = newFromY;
            toX = newToX;
            toY = newToY;
            colourName = newColourName;
        }

        void setBetween(Stroke a, Stroke b, int n, int d) {
            fromX = partWay(a.fromX, b.fromX, n, d);
            fromY = partWay(a.fromY, b.fromY, n, d);
            toX = partWay(a.toX, b.toX, n, d);
            toY = partWay(a.toY, b.toY, n, d);
            colourName = a.colourName;
        }

        int steps() {
            return Math.max(Math.abs(toX - fromX), Math.abs(toY - fromY));
        }

        boolean covers(int x, int y) {
            int steps = steps();
            for (int k = 0; k <= steps; k++) {
                if (partWay(fromX, toX, k, steps) == x && partWay(fromY, toY, k, steps) == y) {
                    return true;
                }
            }
            return false;
        }
    }

    /** A key, or an in-between of a and b, which keeps what it has of them and follows them when they change. */
    private static final class Drawing {
        final Drawing a, b;
        final int n, d;
        /** Bit i tells whether this hangs on drawing i. */
        final int hangsOn;
        /** The first strokeCount are drawn, in their order; the others wait to be used. */
        final Stroke[] strokes;
        int strokeCount;
        final int[] paintPlaces, paintColours;
        int paintCount;
        boolean isClosed, isApproved;
        final Picture picture;
        boolean isPictured;

        Drawing(Drawing ofA, Drawing ofB, int parts, int ofParts, int onNumbers) {
            a = ofA;
            b = ofB;
            n = parts;
            d = ofParts;
            hangsOn = onNumbers;
            strokes = new Stroke[MOST_STROKES];
            for (int i = 0; i < MOST_STROKES; i++) {
                strokes[i] = new Stroke();
            }
            paintPlaces = new int[MOST_PAINTS];
            paintColours = new int[MOST_PAINTS];
            picture = new Picture();
        }

        boolean isKey() {
            return a == null;
        }

        boolean hangsOnNumber(int drawing) {
            return (hangsOn >> drawing & 1) == 1;
        }

        int placeOfStroke(int name) {
            for (int i = 0; i < strokeCount; i++) {
                if (strokes[i].name == name) {
                    return i;
                }
            }
            return NONE;
        }

        /** Eight names fill eight strokes, so that a new name always finds one that waits. */
        Stroke strokeToDraw(int name) {
            int place = placeOfStroke(name);
            if (place == NONE) {
                place = Math.min(strokeCount, MOST_STROKES - 1);
                strokes[place].name = name;
                strokeCount = place + 1;
            }
            return strokes[place];
        }

        boolean takeStroke(int name) {
            int place = placeOfStroke(name);
            if (place == NONE) {
                return false;
            }
            Stroke taken = strokes[place];
            strokeCount--;
            for (int i = place; i < strokeCount; i++) {
                strokes[i] = strokes[i + 1];
            }
            strokes[strokeCount] = taken;
            return true;
        }

        void addPaint(int place, int colourName) {
            if (paintCount < MOST_PAINTS) {
                paintPlaces[paintCount] = place;
                paintColours[paintCount] = colourName;
                paintCount++;
            }
        }

        void follow() {
            isPictured = false;
            if (a == null || b == null) {
                return;
            }
            strokeCount = 0;
            for (int name = 0; name < STROKE_NAMES; name++) {
                int inA = a.placeOfStroke(name);
                int inB = b.placeOfStroke(name);
                if (inA != NONE && inB != NONE) {
                    strokeToDraw(name).setBetween(a.strokes[inA], b.strokes[inB], n, d);
                }
            }
            paintCount = 0;
            for (int i = 0; i < a.paintCount; i++) {
                addPaint(a.paintPlaces[i], a.paintColours[i]);
            }
            isClosed = a.isClosed;
        }
    }

    /** Rows of all points: colour names, or NONE, of the lines and of the whole; 1 or 0 of the walls. */
    private static final class Picture {
        final int[] lines, walls, points;

        Picture() {
            lines = new int[POINTS];
            walls = new int[POINTS];
            points = new int[POINTS];
        }

        boolean isLine(int x, int y) {
            return isPoint(x, y) && lines[placeOf(x, y)] != NONE;
        }

        boolean isOpen(int place) {
            return lines[place] == NONE && walls[place] == 0;
        }

        void drawOutline(Drawing drawing) {
            Arrays.fill(lines, NONE);
            for (int i = 0; i < drawing.strokeCount; i++) {
                drawLine(drawing.strokes[i]);
            }
            Arrays.fill(walls, 0);
            if (drawing.isClosed) {
                closeGaps();
            }
        }

        void drawLine(Stroke stroke) {
            int steps = stroke.steps();
            for (int k = 0; k <= steps; k++) {
                int x = partWay(stroke.fromX, stroke.toX, k, steps);
                int y = partWay(stroke.fromY, stroke.toY, k, steps);
                if (isPoint(x, y)) {
                    lines[placeOf(x, y)] = stroke.colourName;
                }
            }
        }

        void closeGaps() {
            for (int y = 0; y < ROWS; y++) {
                for (int x = 0; x < COLUMNS; x++) {
                    boolean isGap = isLine(x - 1, y) && isLine(x + 1, y) || isLine(x, y - 1) && isLine(x, y + 1);
                    if (isGap && !isLine(x, y)) {
                        walls[placeOf(x, y)] = 1;
                    }
                }
            }
        }

        /** The last paints come first, so that an earlier one in the same field need not be filled again. */
        void paintAll(Drawing drawing, Fill fill) {
            System.arraycopy(lines, 0, points, 0, POINTS);
            for (int i = drawing.paintCount - 1; i >= 0; i--) {
                if (points[drawing.paintPlaces[i]] == NONE) {
                    fill.spread(this, drawing.paintPlaces[i]);
                    for (int k = 0; k < fill.count; k++) {
                        points[fill.queue[k]] = drawing.paintColours[i];
                    }
                }
            }
        }

        int countPainted() {
            int count = 0;
            for (int i = 0; i < POINTS; i++) {
                count += points[i] == NONE ? 0 : 1;
            }
            return count;
        }

        int countLines() {
            int count = 0;
            for (int i = 0; i < POINTS; i++) {
                count += lines[i] == NONE ? 0 : 1;
            }
            return count;
        }

        int countWalls() {
            int count = 0;
            for (int i = 0; i < POINTS; i++) {
                count += walls[i];
            }
            return count;
        }
    }

    /** The open points that can be come to from one of them; its rows are used again for each filling. */
    private static final class Fill {
        final int[] queue, reached;
        int count;

        Fill() {
            queue = new int[POINTS];
            reached = new int[POINTS];
        }

        void spread(Picture picture, int from) {
            Arrays.fill(reached, 0);
            count = 0;
            reach(picture, from);
            for (int i = 0; i < count && i < POINTS; i++) {
                int place = queue[i];
                int x = place % COLUMNS;
                int y = place / COLUMNS;
                if (x > 0) {
                    reach(picture, place - 1);
                }
                if (x < COLUMNS - 1) {
                    reach(picture, place + 1);
                }
                if (y > 0) {
                    reach(picture, place - COLUMNS);
                }
                if (y < ROWS - 1) {
                    reach(picture, place + COLUMNS);
                }
            }
        }

        void reach(Picture picture, int place) {
            if (reached[place] == 0 && picture.isOpen(place) && count < POINTS) {
                reached[place] = 1;
                queue[count] = place;
                count++;
            }
        }
    }

    private static final class Scene {
        final int frames, palette;
        /** What is told, level behind level, each with all frames. */
        final int[] sheets;
        final int[] sounds;
        final boolean[] isOfVoice;
        final Peg[] pegs;
        final int[] depths;
        Peg camera;
        /** Frame behind frame, each with all points; NONE, which no frame shows, until it is shot. */
        final int[] shots;

        Scene(int frameCount, int paletteNumber) {
            frames = frameCount;
            palette = paletteNumber;
            sheets = new int[LEVELS * frameCount];
            Arrays.fill(sheets, HOLD);
            sounds = new int[frameCount];
            Arrays.fill(sounds, UNTOLD);
            isOfVoice = new boolean[LEVELS];
            pegs = new Peg[LEVELS];
            depths = new int[LEVELS];
            Arrays.fill(depths, 1);
            shots = new int[frameCount * POINTS];
            Arrays.fill(shots, NONE);
        }

        int drawingOnSheet(int level, int frame) {
            int at = frame;
            while (at >= 0) {
                int what = sheets[level * frames + at];
                if (what == HOLD) {
                    at--;
                } else if (what > CYCLE) {
                    at -= what - CYCLE;
                } else {
                    return what;
                }
            }
            return NONE;
        }

        int soundAt(int frame) {
            for (int at = frame; at >= 0; at--) {
                if (sounds[at] != UNTOLD) {
                    return sounds[at];
                }
            }
            return NONE;
        }

        int shiftOf(int level, int frame, boolean inX) {
            int own = pegs[level] == null ? 0 : pegs[level].placeAt(frame, inX);
            int ofCamera = camera == null ? 0 : camera.placeAt(frame, inX);
            return own - ofCamera / Math.max(1, depths[level]);
        }

        boolean isAsShot(int frame, int[] colours) {
            for (int i = 0; i < POINTS; i++) {
                if (shots[frame * POINTS + i] != colours[i]) {
                    return false;
                }
            }
            return true;
        }

        void keep(int frame, int[] colours) {
            System.arraycopy(colours, 0, shots, frame * POINTS, POINTS);
        }
    }

    private static final class Peg {
        final Peg by;
        final boolean[] isTold;
        final int[] toldX, toldY;
        int toldCount;

        Peg(Peg carrier) {
            by = carrier;
            isTold = new boolean[MOST_FRAMES];
            toldX = new int[MOST_FRAMES];
            toldY = new int[MOST_FRAMES];
        }

        void tell(int frame, int x, int y) {
            if (!isTold[frame]) {
                isTold[frame] = true;
                toldCount++;
            }
            toldX[frame] = x;
            toldY[frame] = y;
        }

        int placeAt(int frame, boolean inX) {
            int sum = 0;
            for (Peg each = this; each != null; each = each.by) {
                sum += each.ownPlaceAt(frame, inX ? each.toldX : each.toldY);
            }
            return sum;
        }

        int ownPlaceAt(int frame, int[] told) {
            int earlier = lastToldUpTo(frame);
            int later = firstToldFrom(frame);
            if (earlier == NONE && later == NONE) {
                return 0;
            }
            if (earlier == NONE) {
                return told[later];
            }
            if (later == NONE) {
                return told[earlier];
            }
            return partWay(told[earlier], told[later], frame - earlier, later - earlier);
        }

        int lastToldUpTo(int frame) {
            for (int at = frame; at >= 0; at--) {
                if (isTold[at]) {
                    return at;
                }
            }
            return NONE;
        }

        int firstToldFrom(int frame) {
            for (int at = frame; at < MOST_FRAMES; at++) {
                if (isTold[at]) {
                    return at;
                }
            }
            return NONE;
        }
    }
}
