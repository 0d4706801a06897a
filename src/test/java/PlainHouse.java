import java.util.ArrayDeque;
import java.util.ArrayList;
import java.util.HashMap;
import java.util.LinkedHashMap;
import java.util.List;
import java.util.Map;
import java.util.TreeMap;

/** The document once more, with the Java library: it keeps what was told, and works out all else at each call. */
public final class PlainHouse {
    private static final int NONE = -1, HOLD = -2;

    private static final class Sheet {
        int frames, palette;
        final List<Map<Integer, Integer>> told = new ArrayList<>();
        final TreeMap<Integer, Integer> voice = new TreeMap<>();
        final boolean[] speaks = new boolean[4];
        final int[] peg = {NONE, NONE, NONE, NONE, NONE};
        final int[] depth = {1, 1, 1, 1, 1};
        final Map<Integer, List<Integer>> shots = new HashMap<>();
    }

    private static final class Cel {
        int a = NONE, b = NONE, n, d;
        boolean approved, closed;
        final LinkedHashMap<Integer, int[]> strokes = new LinkedHashMap<>();
        final List<int[]> paints = new ArrayList<>();
    }

    final List<Cel> cels = new ArrayList<>();
    final List<Sheet> sheets = new ArrayList<>();
    final List<TreeMap<Integer, int[]>> pegs = new ArrayList<>();
    final List<Integer> carriers = new ArrayList<>();
    final List<Integer> hands = new ArrayList<>();
    final List<Integer> film = new ArrayList<>();
    private final Map<Integer, Integer> mouths = new HashMap<>();
    private final int[][] palettes = new int[4][8];
    private int penX, penY;
    private final Map<Integer, Map<Integer, int[]>> strokesNow = new HashMap<>();
    private final Map<Integer, int[][]> pictureNow = new HashMap<>();

    public PlainHouse() {
        for (int[] palette : palettes) {
            for (int name = 0; name < 8; name++) {
                palette[name] = name + 1;
            }
        }
    }

    public int key() {
        state(cels.size() < 16);
        cels.add(new Cel());
        return cels.size() - 1;
    }

    public int between(int a, int b, int n, int d) {
        index(a, cels.size());
        index(b, cels.size());
        range(d, 1, 24);
        range(n, 0, d);
        state(cels.size() < 16);
        Cel cel = new Cel();
        cel.a = a;
        cel.b = b;
        cel.n = n;
        cel.d = d;
        cels.add(cel);
        return cels.size() - 1;
    }

    public int stroke(int drawing, int name, int x, int y, int colour) {
        index(drawing, cels.size());
        index(x, 16);
        index(y, 12);
        index(colour, 8);
        range(name, 0, 7);
        state(isOpen(drawing));
        cels.get(drawing).strokes.put(name, new int[] {penX, penY, x, y, colour});
        penX = x;
        penY = y;
        return cels.get(drawing).strokes.size();
    }

    public void pen(int x, int y) {
        index(x, 16);
        index(y, 12);
        penX = x;
        penY = y;
    }

    public boolean erase(int drawing, int name) {
        index(drawing, cels.size());
        range(name, 0, 7);
        state(isOpen(drawing));
        return cels.get(drawing).strokes.remove(name) != null;
    }

    public int paint(int drawing, int colour) {
        index(drawing, cels.size());
        index(colour, 8);
        state(isOpen(drawing) && cels.get(drawing).paints.size() < 6);
        cels.get(drawing).paints.add(new int[] {penX, penY, colour});
        return cels.get(drawing).paints.size();
    }

    public boolean gaps(int drawing) {
        index(drawing, cels.size());
        state(isOpen(drawing));
        return cels.get(drawing).closed = !cels.get(drawing).closed;
    }

    public int approve(int drawing, boolean isGood) {
        index(drawing, cels.size());
        state(cels.get(drawing).approved != isGood);
        cels.get(drawing).approved = isGood;
        int count = 0;
        for (int scene = 0; scene < sheets.size(); scene++) {
            for (int frame = 0; frame < sheets.get(scene).frames; frame++) {
                count += hangs(scene, frame, drawing) ? 1 : 0;
            }
        }
        return count;
    }

    public int colour(int palette, int name, int colour) {
        index(palette, 4);
        index(name, 8);
        range(colour, 1, 99);
        int before = palettes[palette][name];
        palettes[palette][name] = colour;
        return before;
    }

    public int scene(int frames, int palette) {
        index(palette, 4);
        range(frames, 1, 24);
        state(sheets.size() < 6);
        Sheet sheet = new Sheet();
        sheet.frames = frames;
        sheet.palette = palette;
        for (int level = 0; level < 4; level++) {
            sheet.told.add(new HashMap<>());
        }
        sheets.add(sheet);
        return sheets.size() - 1;
    }

    public int expose(int scene, int level, int frame, int what) {
        Sheet sheet = sheetAt(scene, frame);
        index(level, 4);
        if (what >= 0 && what <= 15) {
            index(what, cels.size());
        } else if (what < -2 || what > -1) {
            range(what, 100, 123);
        }
        Integer before = sheet.told.get(level).put(frame, what);
        return before == null ? HOLD : before;
    }

    public int voice(int scene, int frame, int sound) {
        Sheet sheet = sheetAt(scene, frame);
        index(sound + 1, 9);
        int before = soundAt(sheet, frame);
        sheet.voice.put(frame, sound);
        return before;
    }

    public int mouth(int sound, int drawing) {
        index(sound, 8);
        index(drawing + 1, cels.size() + 1);
        Integer before = mouths.put(sound, drawing);
        return before == null ? NONE : before;
    }

    public boolean speaks(int scene, int level) {
        index(scene, sheets.size());
        index(level, 4);
        return sheets.get(scene).speaks[level] = !sheets.get(scene).speaks[level];
    }

    public int peg(int by) {
        index(by + 1, pegs.size() + 1);
        state(pegs.size() < 6);
        pegs.add(new TreeMap<>());
        carriers.add(by);
        return pegs.size() - 1;
    }

    public int move(int peg, int frame, int x, int y) {
        index(peg, pegs.size());
        range(frame, 0, 23);
        range(x, -20, 20);
        range(y, -20, 20);
        state(pegs.get(peg).size() < 6 || pegs.get(peg).containsKey(frame));
        pegs.get(peg).put(frame, new int[] {x, y});
        return pegs.get(peg).size();
    }

    public void hang(int scene, int level, int peg, int depth) {
        index(scene, sheets.size());
        index(level, 5);
        index(peg + 1, pegs.size() + 1);
        if (level != 4) {
            range(depth, 1, 4);
            sheets.get(scene).depth[level] = depth;
        }
        sheets.get(scene).peg[level] = peg;
    }

    public int shoot(int scene) {
        index(scene, sheets.size());
        int count = 0;
        for (int frame = 0; frame < sheets.get(scene).frames; frame++) {
            List<Integer> now = frameNow(scene, frame);
            count += now.equals(sheets.get(scene).shots.put(frame, now)) ? 0 : 1;
        }
        return count;
    }

    public int hand(int speed) {
        range(speed, 1, 9);
        state(hands.size() < 4);
        hands.add(speed);
        return hands.size() - 1;
    }

    public int splice(int scene) {
        index(scene, sheets.size());
        state(film.size() < 10);
        film.add(scene);
        return allFrames().size();
    }

    public int cut() {
        int before = allFrames().size();
        film.clear();
        return before;
    }

    public int of(int drawing, int what) {
        index(drawing, cels.size());
        range(what, 0, 5);
        forget();
        switch (what) {
            case 0: return strokesOf(drawing).size();
            case 1: return paintsOf(drawing).size();
            case 2: return cels.get(drawing).approved ? 1 : 0;
            default: return count(drawing, what);
        }
    }

    public int point(int drawing, int x, int y) {
        index(drawing, cels.size());
        index(x, 16);
        index(y, 12);
        forget();
        return pictureOf(drawing)[y][x];
    }

    public int has(int scene, int level, int frame) {
        Sheet sheet = sheetAt(scene, frame);
        index(level, 4);
        return hasAt(sheet, level, frame);
    }

    public int moved(int scene, int level, int frame, boolean inX) {
        Sheet sheet = sheetAt(scene, frame);
        index(level, 4);
        return shift(sheet, level, frame, inX ? 0 : 1);
    }

    public int seen(int scene, int frame, int x, int y) {
        sheetAt(scene, frame);
        index(x, 16);
        index(y, 12);
        return frameNow(scene, frame).get(y * 16 + x);
    }

    public int seenAnew(int scene, int frame, int x, int y) {
        return seen(scene, frame, x, y);
    }

    public int shot(int scene, int frame, int x, int y) {
        Sheet sheet = sheetAt(scene, frame);
        index(x, 16);
        index(y, 12);
        return sheet.shots.containsKey(frame) ? sheet.shots.get(frame).get(y * 16 + x) : NONE;
    }

    public int stale(int scene) {
        index(scene, sheets.size());
        int count = 0;
        for (int frame = 0; frame < sheets.get(scene).frames; frame++) {
            count += frameNow(scene, frame).equals(sheets.get(scene).shots.get(frame)) ? 0 : 1;
        }
        return count;
    }

    public boolean hangs(int scene, int frame, int drawing) {
        Sheet sheet = sheetAt(scene, frame);
        index(drawing, cels.size());
        for (int level = 0; level < 4; level++) {
            if (needs(hasAt(sheet, level, frame), drawing)) {
                return true;
            }
        }
        return false;
    }

    public int faults(int scene, int frame) {
        Sheet sheet = sheetAt(scene, frame);
        boolean bare = false;
        boolean flash = false;
        List<Integer> points = frameNow(scene, frame);
        for (int level = 0; level < 4; level++) {
            int now = hasAt(sheet, level, frame);
            bare |= now != NONE && strokesOf(now).isEmpty();
            if (frame > 0 && frame + 1 < sheet.frames) {
                int ahead = hasAt(sheet, level, frame - 1);
                int next = hasAt(sheet, level, frame + 1);
                flash |= ahead == next && next != NONE && now != next;
            }
        }
        boolean empty = points.stream().allMatch(colour -> colour == 0);
        return (bare ? 1 : 0) + (flash ? 2 : 0) + (empty ? 4 : 0);
    }

    public int hours(int hand) {
        index(hand, hands.size());
        int[] free = new int[hands.size()];
        for (Cel cel : cels) {
            if (cel.a == NONE && !cel.strokes.isEmpty()) {
                int best = 0;
                for (int i = 0; i < free.length; i++) {
                    best = free[i] < free[best] ? i : best;
                }
                for (int done = 0; done < cel.strokes.size(); done += hands.get(best)) {
                    free[best]++;
                }
            }
        }
        return free[hand];
    }

    public int film(int frame) {
        List<Integer> all = allFrames();
        index(frame, all.size());
        return all.get(frame);
    }

    private boolean isOpen(int drawing) {
        return cels.get(drawing).a == NONE && !cels.get(drawing).approved;
    }

    private void forget() {
        strokesNow.clear();
        pictureNow.clear();
    }

    private Map<Integer, int[]> strokesOf(int drawing) {
        Cel cel = cels.get(drawing);
        if (cel.a == NONE) {
            return cel.strokes;
        }
        Map<Integer, int[]> known = strokesNow.get(drawing);
        if (known != null) {
            return known;
        }
        Map<Integer, int[]> strokes = new TreeMap<>();
        Map<Integer, int[]> ofB = strokesOf(cel.b);
        for (Map.Entry<Integer, int[]> entry : strokesOf(cel.a).entrySet()) {
            int[] from = entry.getValue();
            int[] to = ofB.get(entry.getKey());
            if (to != null) {
                int[] made = from.clone();
                for (int i = 0; i < 4; i++) {
                    made[i] += divided(cel.n * (to[i] - from[i]), cel.d);
                }
                strokes.put(entry.getKey(), made);
            }
        }
        strokesNow.put(drawing, strokes);
        return strokes;
    }

    private Cel keyOf(int drawing) {
        Cel cel = cels.get(drawing);
        while (cel.a != NONE) {
            cel = cels.get(cel.a);
        }
        return cel;
    }

    private List<int[]> paintsOf(int drawing) {
        return keyOf(drawing).paints;
    }

    private int[][] linesOf(int drawing) {
        int[][] lines = blank();
        for (int[] stroke : strokesOf(drawing).values()) {
            int dx = stroke[2] - stroke[0];
            int dy = stroke[3] - stroke[1];
            int m = Math.max(Math.abs(dx), Math.abs(dy));
            for (int k = 0; k <= m; k++) {
                int y = m == 0 ? stroke[1] : stroke[1] + divided(k * dy, m);
                int x = m == 0 ? stroke[0] : stroke[0] + divided(k * dx, m);
                lines[y][x] = stroke[4];
            }
        }
        return lines;
    }

    private boolean[][] wallsOf(int drawing, int[][] lines) {
        boolean[][] walls = new boolean[12][16];
        for (int y = 0; y < 12 && keyOf(drawing).closed; y++) {
            for (int x = 0; x < 16; x++) {
                boolean across = x > 0 && x < 15 && lines[y][x - 1] != NONE && lines[y][x + 1] != NONE;
                boolean upright = y > 0 && y < 11 && lines[y - 1][x] != NONE && lines[y + 1][x] != NONE;
                walls[y][x] = lines[y][x] == NONE && (across || upright);
            }
        }
        return walls;
    }

    private int[][] pictureOf(int drawing) {
        int[][] known = pictureNow.get(drawing);
        if (known != null) {
            return known;
        }
        int[][] lines = linesOf(drawing);
        boolean[][] walls = wallsOf(drawing, lines);
        int[][] picture = blank();
        for (int[] paint : paintsOf(drawing)) {
            boolean[][] been = new boolean[12][16];
            ArrayDeque<int[]> open = new ArrayDeque<>();
            open.push(new int[] {paint[0], paint[1]});
            while (!open.isEmpty()) {
                int x = open.peek()[0];
                int y = open.pop()[1];
                if (x < 0 || y < 0 || x > 15 || y > 11 || been[y][x] || lines[y][x] != NONE || walls[y][x]) {
                    continue;
                }
                been[y][x] = true;
                picture[y][x] = paint[2];
                open.push(new int[] {x - 1, y});
                open.push(new int[] {x + 1, y});
                open.push(new int[] {x, y - 1});
                open.push(new int[] {x, y + 1});
            }
        }
        for (int y = 0; y < 12; y++) {
            for (int x = 0; x < 16; x++) {
                picture[y][x] = lines[y][x] == NONE ? picture[y][x] : lines[y][x];
            }
        }
        pictureNow.put(drawing, picture);
        return picture;
    }

    private int count(int drawing, int what) {
        int[][] lines = linesOf(drawing);
        boolean[][] walls = wallsOf(drawing, lines);
        int[][] picture = pictureOf(drawing);
        int count = 0;
        for (int y = 0; y < 12; y++) {
            for (int x = 0; x < 16; x++) {
                boolean counts = what == 3 ? picture[y][x] != NONE : what == 4 ? lines[y][x] != NONE : walls[y][x];
                count += counts ? 1 : 0;
            }
        }
        return count;
    }

    private static int[][] blank() {
        int[][] points = new int[12][16];
        for (int[] row : points) {
            java.util.Arrays.fill(row, NONE);
        }
        return points;
    }

    private int soundAt(Sheet sheet, int frame) {
        Map.Entry<Integer, Integer> told = sheet.voice.floorEntry(frame);
        return told == null ? NONE : told.getValue();
    }

    private int hasAt(Sheet sheet, int level, int frame) {
        if (sheet.speaks[level]) {
            return mouths.getOrDefault(soundAt(sheet, Math.min(frame + 1, sheet.frames - 1)), NONE);
        }
        if (frame < 0) {
            return NONE;
        }
        int what = sheet.told.get(level).getOrDefault(frame, HOLD);
        return what == HOLD ? hasAt(sheet, level, frame - 1)
                : what >= 100 ? hasAt(sheet, level, frame - (what - 99)) : what;
    }

    private int placeOf(int peg, int frame, int axis) {
        if (peg == NONE) {
            return 0;
        }
        Map.Entry<Integer, int[]> earlier = pegs.get(peg).floorEntry(frame);
        Map.Entry<Integer, int[]> later = pegs.get(peg).higherEntry(frame);
        int own = 0;
        if (earlier != null && later != null) {
            int difference = later.getValue()[axis] - earlier.getValue()[axis];
            int gone = frame - earlier.getKey();
            own = earlier.getValue()[axis] + divided(gone * difference, later.getKey() - earlier.getKey());
        } else if (earlier != null || later != null) {
            own = (earlier != null ? earlier : later).getValue()[axis];
        }
        return own + placeOf(carriers.get(peg), frame, axis);
    }

    private int shift(Sheet sheet, int level, int frame, int axis) {
        int camera = placeOf(sheet.peg[4], frame, axis);
        return placeOf(sheet.peg[level], frame, axis) - divided(camera, sheet.depth[level]);
    }

    private List<Integer> frameNow(int scene, int frame) {
        forget();
        Sheet sheet = sheets.get(scene);
        List<Integer> points = new ArrayList<>();
        for (int place = 0; place < 192; place++) {
            int colour = 0;
            for (int level = 3; level >= 0 && colour == 0; level--) {
                int drawing = hasAt(sheet, level, frame);
                int x = place % 16 - shift(sheet, level, frame, 0);
                int y = place / 16 - shift(sheet, level, frame, 1);
                if (drawing != NONE && x >= 0 && y >= 0 && x < 16 && y < 12 && pictureOf(drawing)[y][x] != NONE) {
                    colour = palettes[sheet.palette][pictureOf(drawing)[y][x]];
                }
            }
            points.add(colour);
        }
        return points;
    }

    private boolean needs(int there, int drawing) {
        if (there < drawing) {
            return false;
        }
        return there == drawing || needs(cels.get(there).a, drawing) || needs(cels.get(there).b, drawing);
    }

    private List<Integer> allFrames() {
        List<Integer> all = new ArrayList<>();
        for (int scene : film) {
            for (int frame = 0; frame < sheets.get(scene).frames; frame++) {
                all.add(100 * scene + frame);
            }
        }
        return all;
    }

    private Sheet sheetAt(int scene, int frame) {
        index(scene, sheets.size());
        index(frame, sheets.get(scene).frames);
        return sheets.get(scene);
    }

    /** Rounded towards 0. */
    private static int divided(int number, int by) {
        return number < 0 ? -Math.floorDiv(-number, by) : Math.floorDiv(number, by);
    }

    private static void index(int index, int end) {
        if (index < 0 || index >= end) {
            throw new IndexOutOfBoundsException();
        }
    }

    private static void range(int number, int least, int most) {
        if (number < least || number > most) {
            throw new IllegalArgumentException();
        }
    }

    private static void state(boolean isSo) {
        if (!isSo) {
            throw new IllegalStateException();
        }
    }
}
