import java.util.Arrays;

/**
 * A bench for pictures of dots. The words in capitals are those of the document:
 * a colour is told plain, a DOT and an INK have their RED, GREEN and BLUE already
 * weighed by ALPHA.
 */
public final class DotBench {
    public static final int NONE = -1;

    private static final int SHEETS = 4;
    private static final int SIDE = 64;
    private static final int FULL = 255;
    private static final int POINTS = 48;
    private static final int CORNERS = 3;

    private static final int LAST_WAY = 12;
    private static final int FAR_END = 2000;
    private static final int WIDEST_CIRCLE = 500;
    private static final int FAR_POINT = 4096;
    private static final int FAR_PLACE = 200;

    /** Centres of DOTS are 1 << 5 thirty-seconds apart, samples for smoothing 1 << 3. */
    private static final int CENTRES = 5;
    private static final int SAMPLES = 3;
    private static final int DOT_UNITS = 1 << CENTRES;
    private static final int SAMPLES_A_SIDE = DOT_UNITS >> SAMPLES;
    private static final int SAMPLES_A_DOT = SAMPLES_A_SIDE * SAMPLES_A_SIDE;

    private final Sheet[] sheets = new Sheet[SHEETS];
    private final Brush brush = new Brush();
    private final Box everywhere = new Box();
    private final Path path = new Path();
    private final Triangle triangle = new Triangle();
    private final Scan scan = new Scan();
    private int dashes = 0xFFFF;

    // These need large rows: they are made at their first use and kept, so that an object without them stays small.
    private Spread spread = null;
    private Sheet between = null;

    public DotBench() {
    }

    public boolean sheet(int k, int w, int h) {
        if (k < 0 || k >= SHEETS || !isSide(w) || !isSide(h)) {
            return false;
        }
        if (sheets[k] == null) {
            sheets[k] = new Sheet();
        }
        sheets[k].begin(w, h);
        return true;
    }

    public void ink(int colour) {
        brush.ink = inkOf(colour);
    }

    public boolean way(int way, int opacity) {
        if (!isWithin(way, 0, LAST_WAY) || !isWithin(opacity, 0, FULL)) {
            return false;
        }
        brush.way = way;
        brush.opacity = opacity;
        return true;
    }

    public void clip(int x0, int y0, int x1, int y1) {
        brush.clip.bound(x0, y0, x1, y1);
    }

    public void dashes(int bits) {
        dashes = bits & 0xFFFF;
    }

    public int line(int k, int x0, int y0, int x1, int y1) {
        Sheet target = sheetAt(k);
        if (target == null || !isNear(x0, FAR_END) || !isNear(y0, FAR_END)
                || !isNear(x1, FAR_END) || !isNear(y1, FAR_END)) {
            return NONE;
        }
        int dx = Math.abs(x1 - x0);
        int dy = Math.abs(y1 - y0);
        int towardsX = Integer.compare(x1, x0);
        int towardsY = Integer.compare(y1, y0);
        int steps = Math.max(dx, dy);
        int touched = 0;
        for (int i = 0; i <= steps; i++) {
            if (((dashes >> (i & 15)) & 1) == 1) {
                int x = x0 + towardsX * wayAlong(i, steps, dx);
                int y = y0 + towardsY * wayAlong(i, steps, dy);
                touched += brush.lay(target, x, y, brush.ink, brush.opacity);
            }
        }
        return touched;
    }

    public int circle(int k, int x, int y, int r) {
        Sheet target = sheetAt(k);
        if (target == null || !isNear(x, FAR_END) || !isNear(y, FAR_END) || !isWithin(r, 0, WIDEST_CIRCLE)) {
            return NONE;
        }
        int touched = 0;
        int b = r;
        for (int a = 0; a <= r; a++) {
            b = nearestRoot(r * r - a * a, b);
            if (a > b) {
                break;
            }
            touched += layMirrored(target, x, y, a, b);
            if (a != b) {
                touched += layMirrored(target, x, y, b, a);
            }
        }
        return touched;
    }

    public int point(int x, int y, boolean begins) {
        if (!isNear(x, FAR_POINT) || !isNear(y, FAR_POINT)) {
            return NONE;
        }
        return path.add(2 * x, 2 * y, begins) ? path.points : NONE;
    }

    public void clear() {
        path.empty();
    }

    public int fill(int k, int rule, boolean smooth) {
        Sheet target = sheetAt(k);
        if (target == null || !isRule(rule)) {
            return NONE;
        }
        int touched = 0;
        for (int y = 0; y < target.height; y++) {
            scan.read(path, y, target.width, smooth ? SAMPLES : CENTRES, rule);
            for (int x = 0; x < target.width; x++) {
                int covered = scan.coveredAt(x);
                if (covered != 0) {
                    int measure = smooth ? brush.measureOf(covered) : brush.opacity;
                    touched += brush.lay(target, x, y, brush.ink, measure);
                }
            }
        }
        return touched;
    }

    public boolean corner(int i, int x, int y, int colour) {
        if (i < 0 || i >= CORNERS || !isNear(x, FAR_PLACE) || !isNear(y, FAR_PLACE)) {
            return false;
        }
        triangle.place(i, x, y, inkOf(colour));
        return true;
    }

    public int shade(int k) {
        Sheet target = sheetAt(k);
        if (target == null) {
            return NONE;
        }
        triangle.draw();
        int touched = 0;
        for (int y = 0; y < target.height; y++) {
            scan.read(triangle.outline, y, target.width, CENTRES, 1);
            for (int x = 0; x < target.width; x++) {
                if (scan.coveredAt(x) != 0) {
                    touched += brush.lay(target, x, y, triangle.inkAt(x, y), brush.opacity);
                }
            }
        }
        return touched;
    }

    public int flood(int k, int x, int y, boolean corners) {
        Sheet target = sheetAt(k);
        if (target == null || !target.has(x, y)) {
            return NONE;
        }
        Spread found = gathered(target, brush.clip, x, y, corners);
        int touched = 0;
        for (int i = 0; i < found.size; i++) {
            touched += brush.lay(target, found.xAt(i), found.yAt(i), brush.ink, brush.opacity);
        }
        return touched;
    }

    public int copy(int k, int x, int y, int w, int h, int q, int X, int Y) {
        if (!isWithin(w, 0, SIDE) || !isWithin(h, 0, SIDE)) {
            return NONE;
        }
        return carry(k, new Frame(x, y, w, h), q, new Frame(X, Y, w, h));
    }

    public int stretch(int k, int x, int y, int w, int h, int q, int X, int Y, int W, int H) {
        if (!isSide(w) || !isSide(h) || !isSide(W) || !isSide(H)) {
            return NONE;
        }
        return carry(k, new Frame(x, y, w, h), q, new Frame(X, Y, W, H));
    }

    public int dot(int k, int x, int y) {
        Sheet asked = sheetAt(k);
        return asked == null ? 0 : asked.at(x, y);
    }

    public int count(int k, int value) {
        Sheet asked = sheetAt(k);
        if (asked == null) {
            return NONE;
        }
        int found = 0;
        for (int y = 0; y < asked.height; y++) {
            for (int x = 0; x < asked.width; x++) {
                if (asked.at(x, y) == value) {
                    found++;
                }
            }
        }
        return found;
    }

    public int region(int k, int x, int y, boolean corners) {
        Sheet asked = sheetAt(k);
        if (asked == null || !asked.has(x, y)) {
            return NONE;
        }
        return gathered(asked, everywhere, x, y, corners).size;
    }

    public int differ(int k, int q) {
        Sheet one = sheetAt(k);
        Sheet other = sheetAt(q);
        if (one == null || other == null || one.width != other.width || one.height != other.height) {
            return NONE;
        }
        int found = 0;
        for (int y = 0; y < one.height; y++) {
            for (int x = 0; x < one.width; x++) {
                if (one.at(x, y) != other.at(x, y)) {
                    found++;
                }
            }
        }
        return found;
    }

    public int look(int k, int what) {
        Sheet asked = sheetAt(k);
        if (asked == null) {
            return NONE;
        }
        switch (what) {
            case 0:
            case 1:
            case 2:
            case 3:
                return asked.boxSide(what < 2, what % 2 == 1);
            case 4:
                return asked.width;
            case 5:
                return asked.height;
            case 6:
            case 7:
            case 8:
            case 9:
                return asked.channelSum(24 - 8 * (what - 6));
            default:
                return NONE;
        }
    }

    public int inside(int u, int v, int rule) {
        if (!isRule(rule)) {
            return NONE;
        }
        return isIn(path.windingAt(u, v), rule) ? 1 : 0;
    }

    private Sheet sheetAt(int k) {
        return k >= 0 && k < SHEETS ? sheets[k] : null;
    }

    private static boolean isWithin(int n, int least, int most) {
        return n >= least && n <= most;
    }

    private static boolean isNear(int n, int far) {
        return isWithin(n, -far, far);
    }

    private static boolean isSide(int n) {
        return isWithin(n, 1, SIDE);
    }

    private static boolean isRule(int rule) {
        return rule == 0 || rule == 1;
    }

    private static boolean isIn(int winding, int rule) {
        return rule == 0 ? (winding & 1) == 1 : winding != 0;
    }

    /** R(n, 255). */
    private static int shareOfFull(int n) {
        return (2 * n + FULL) / (2 * FULL);
    }

    private static int channel(int value, int shift) {
        return (value >>> shift) & FULL;
    }

    private static int inkOf(int colour) {
        int alpha = channel(colour, 24);
        int ink = alpha;
        for (int shift = 16; shift >= 0; shift -= 8) {
            ink = ink << 8 | shareOfFull(channel(colour, shift) * alpha);
        }
        return ink;
    }

    /** How far along a side of the given distance a LINE is at step i: of two as near, the nearer to its start. */
    private static int wayAlong(int i, int steps, int distance) {
        return steps <= 0 ? 0 : (2 * i * distance + steps - 1) / (2 * steps);
    }

    /** The whole number nearest to the root of n, known to be at most most. No root of a whole number lies midway. */
    private static int nearestRoot(int n, int most) {
        int b = most;
        while (b > 0 && b * b - b >= n) {
            b--;
        }
        return b;
    }

    /** Lays (x +- a, y +- b); a 0 has no mirror image of its own, for a DOT is TOUCHED once. */
    private int layMirrored(Sheet target, int x, int y, int a, int b) {
        int touched = layPair(target, x, a, y + b);
        if (b != 0) {
            touched += layPair(target, x, a, y - b);
        }
        return touched;
    }

    private int layPair(Sheet target, int x, int a, int y) {
        int touched = brush.lay(target, x + a, y, brush.ink, brush.opacity);
        if (a != 0) {
            touched += brush.lay(target, x - a, y, brush.ink, brush.opacity);
        }
        return touched;
    }

    private Spread gathered(Sheet from, Box limits, int x, int y, boolean corners) {
        if (spread == null) {
            spread = new Spread();
        }
        spread.gather(from, limits, x, y, corners);
        return spread;
    }

    /** A COPY is a STRETCH between frames of one size. */
    private int carry(int k, Frame from, int q, Frame onto) {
        Sheet source = sheetAt(k);
        Sheet target = sheetAt(q);
        if (source == null || target == null || !from.isNearby() || !onto.isNearby()) {
            return NONE;
        }
        if (k == q) {
            source = likenessOf(source);
        }
        int touched = 0;
        for (int j = 0; j < onto.h; j++) {
            int y = from.y + j * from.h / onto.h;
            for (int i = 0; i < onto.w; i++) {
                int x = from.x + i * from.w / onto.w;
                if (source.has(x, y)) {
                    touched += brush.lay(target, onto.x + i, onto.y + j, source.at(x, y), brush.opacity);
                }
            }
        }
        return touched;
    }

    private Sheet likenessOf(Sheet model) {
        if (between == null) {
            between = new Sheet();
        }
        between.become(model);
        return between;
    }

    /** Its rows of DOTS stand SIDE apart whatever its width, so that one array serves every size. */
    private static final class Sheet {
        private final int[] dots = new int[SIDE * SIDE];
        private int width = 0;
        private int height = 0;

        void begin(int w, int h) {
            width = w;
            height = h;
            Arrays.fill(dots, 0);
        }

        void become(Sheet model) {
            width = model.width;
            height = model.height;
            System.arraycopy(model.dots, 0, dots, 0, SIDE * SIDE);
        }

        boolean has(int x, int y) {
            return x >= 0 && x < width && y >= 0 && y < height;
        }

        int at(int x, int y) {
            return has(x, y) ? dots[y * SIDE + x] : 0;
        }

        void put(int x, int y, int value) {
            if (has(x, y)) {
                dots[y * SIDE + x] = value;
            }
        }

        int channelSum(int shift) {
            int sum = 0;
            for (int y = 0; y < height; y++) {
                for (int x = 0; x < width; x++) {
                    sum += channel(at(x, y), shift);
                }
            }
            return sum;
        }

        int boxSide(boolean alongX, boolean highest) {
            int low = NONE;
            int high = NONE;
            for (int y = 0; y < height; y++) {
                for (int x = 0; x < width; x++) {
                    if (channel(at(x, y), 24) != 0) {
                        int place = alongX ? x : y;
                        low = low == NONE ? place : Math.min(low, place);
                        high = Math.max(high, place);
                    }
                }
            }
            return highest ? high : low;
        }
    }

    /** Bounds that are inclusive; a new one holds every DOT that a SHEET can have. */
    private static final class Box {
        private int x0 = 0;
        private int y0 = 0;
        private int x1 = SIDE - 1;
        private int y1 = SIDE - 1;

        void bound(int leastX, int leastY, int mostX, int mostY) {
            x0 = leastX;
            y0 = leastY;
            x1 = mostX;
            y1 = mostY;
        }

        boolean holds(int x, int y) {
            return x >= x0 && x <= x1 && y >= y0 && y <= y1;
        }
    }

    /** A part of a SHEET, or of the room around it, that is copied from or onto. */
    private static final class Frame {
        private final int x;
        private final int y;
        private final int w;
        private final int h;

        Frame(int x, int y, int w, int h) {
            this.x = x;
            this.y = y;
            this.w = w;
            this.h = h;
        }

        boolean isNearby() {
            return isNear(x, FAR_PLACE) && isNear(y, FAR_PLACE);
        }
    }

    /** What decides how a DOT is LAID: the INK, the WAY, the OPACITY and THE CLIP. */
    private static final class Brush {
        private final Box clip = new Box();
        private int ink = 0xFFFFFFFF;
        private int way = 3;
        private int opacity = FULL;

        /** R(OPACITY c, 16). */
        int measureOf(int covered) {
            return (2 * opacity * covered + SAMPLES_A_DOT) / (2 * SAMPLES_A_DOT);
        }

        /** How many DOTS it TOUCHED: 1 or 0. */
        int lay(Sheet target, int x, int y, int source, int measure) {
            if (!target.has(x, y) || !clip.holds(x, y)) {
                return 0;
            }
            target.put(x, y, laid(source, target.at(x, y), measure));
            return 1;
        }

        private int laid(int source, int there, int measure) {
            int p = weightOfSource(channel(there, 24));
            int q = weightOfThere(channel(source, 24));
            int value = 0;
            for (int shift = 24; shift >= 0; shift -= 8) {
                int old = channel(there, shift);
                int v = Math.min(FULL, shareOfFull(channel(source, shift) * p + old * q));
                value = value << 8 | shareOfFull(v * measure + old * (FULL - measure));
            }
            return value;
        }

        private int weightOfSource(int d) {
            switch (way) {
                case 1:
                case 3:
                case 12:
                    return FULL;
                case 5:
                case 9:
                    return d;
                case 4:
                case 7:
                case 10:
                case 11:
                    return FULL - d;
                default:
                    return 0;
            }
        }

        private int weightOfThere(int s) {
            switch (way) {
                case 2:
                case 4:
                case 12:
                    return FULL;
                case 6:
                case 10:
                    return s;
                case 3:
                case 8:
                case 9:
                case 11:
                    return FULL - s;
                default:
                    return 0;
            }
        }
    }

    /**
     * CONTOURS in thirty-seconds of a DOT. Each POINT is held with the EDGE that leaves it, which leads back to its
     * CONTOUR's first POINT until another comes, so that every CONTOUR is closed at any time.
     */
    private static final class Path {
        private final int[] fromX = new int[POINTS];
        private final int[] fromY = new int[POINTS];
        private final int[] toX = new int[POINTS];
        private final int[] toY = new int[POINTS];
        private int points = 0;
        private int firstX = 0;
        private int firstY = 0;

        void empty() {
            points = 0;
        }

        boolean add(int u, int v, boolean begins) {
            if (points >= POINTS) {
                return false;
            }
            if (begins || points == 0) {
                firstX = u;
                firstY = v;
            } else {
                toX[points - 1] = u;
                toY[points - 1] = v;
            }
            fromX[points] = u;
            fromY[points] = v;
            toX[points] = firstX;
            toY[points] = firstY;
            points++;
            return true;
        }

        int windingAt(int u, int v) {
            int sum = 0;
            for (int e = 0; e < points; e++) {
                int turn = turnOf(e, v);
                if (turn != 0 && firstRightOf(e, v) <= u) {
                    sum += turn;
                }
            }
            return sum;
        }

        /** The WINDINGS of a row of places at height v, the s-th at (s + 1/2) << spacing. */
        void windRow(int v, int spacing, int[] row, int places) {
            int used = Math.min(places, row.length);
            Arrays.fill(row, 0);
            int half = (1 << spacing) / 2;
            for (int e = 0; e < points; e++) {
                int turn = turnOf(e, v);
                if (turn != 0) {
                    int first = Math.max(0, (firstRightOf(e, v) + half - 1) >> spacing);
                    if (first < used) {
                        row[first] += turn;
                    }
                }
            }
            for (int s = 1; s < used; s++) {
                row[s] += row[s - 1];
            }
        }

        private int turnOf(int e, int v) {
            if (fromY[e] <= v && v < toY[e]) {
                return 1;
            }
            return toY[e] <= v && v < fromY[e] ? -1 : 0;
        }

        /** The least whole u that the EDGE's x at v is not above; v is between the EDGE's ends, so no int overflows. */
        private int firstRightOf(int e, int v) {
            int rise = toY[e] - fromY[e];
            if (rise == 0) {
                return fromX[e];
            }
            return fromX[e] - Math.floorDiv((fromX[e] - toX[e]) * (v - fromY[e]), rise);
        }
    }

    /** How much of each DOT of one row is INSIDE. */
    private static final class Scan {
        private final int[] windings = new int[SIDE * SAMPLES_A_SIDE];
        private final int[] covered = new int[SIDE];

        /** The places of a DOT are 1 << spacing apart: its centre alone, or its sixteen samples. */
        void read(Path path, int y, int width, int spacing, int rule) {
            int perSide = DOT_UNITS >> spacing;
            int half = (1 << spacing) / 2;
            Arrays.fill(covered, 0);
            for (int j = 0; j < perSide; j++) {
                int v = y * DOT_UNITS + (j << spacing) + half;
                path.windRow(v, spacing, windings, width * perSide);
                addRow(width, perSide, rule);
            }
        }

        int coveredAt(int x) {
            return x >= 0 && x < SIDE ? covered[x] : 0;
        }

        private void addRow(int width, int perSide, int rule) {
            for (int x = 0; x < width && x < SIDE; x++) {
                for (int i = 0; i < perSide && i < SAMPLES_A_SIDE; i++) {
                    if (isIn(windings[x * perSide + i], rule)) {
                        covered[x]++;
                    }
                }
            }
        }
    }

    /** The three corners of SHADE, in whole DOTS. */
    private static final class Triangle {
        private final int[] xs = new int[CORNERS];
        private final int[] ys = new int[CORNERS];
        private final int[] inks = new int[CORNERS];
        private final Path outline = new Path();

        void place(int i, int x, int y, int ink) {
            if (i >= 0 && i < CORNERS) {
                xs[i] = x;
                ys[i] = y;
                inks[i] = ink;
            }
        }

        void draw() {
            outline.empty();
            for (int i = 0; i < CORNERS; i++) {
                outline.add(xs[i] * DOT_UNITS, ys[i] * DOT_UNITS, false);
            }
        }

        /** The mixture at the centre of a DOT that is INSIDE. */
        int inkAt(int x, int y) {
            int wa = areaFrom(x, y, 1, 2);
            int wb = areaFrom(x, y, 2, 0);
            int wc = areaFrom(x, y, 0, 1);
            // Of a place INSIDE, the three parts make up the whole triangle.
            int w = wa + wb + wc;
            if (w == 0) {
                return 0;
            }
            int value = 0;
            for (int shift = 24; shift >= 0; shift -= 8) {
                int sum = wa * channel(inks[0], shift) + wb * channel(inks[1], shift) + wc * channel(inks[2], shift);
                value = value << 8 | sum / w;
            }
            return value;
        }

        /** The double area, four times, of the triangle of a DOT's centre and the corners b and c. */
        private int areaFrom(int x, int y, int b, int c) {
            int bx = 2 * xs[b] - (2 * x + 1);
            int by = 2 * ys[b] - (2 * y + 1);
            int cx = 2 * xs[c] - (2 * x + 1);
            int cy = 2 * ys[c] - (2 * y + 1);
            return Math.abs(bx * cy - by * cx);
        }
    }

    /** The DOTS of one value that hang together, each once. */
    private static final class Spread {
        private final int[] places = new int[SIDE * SIDE];
        private final int[] seen = new int[SIDE * SIDE];
        private int size = 0;

        void gather(Sheet from, Box limits, int x, int y, boolean corners) {
            Arrays.fill(seen, 0);
            size = 0;
            int value = from.at(x, y);
            reach(from, limits, x, y, value);
            for (int i = 0; i < size && i < SIDE * SIDE; i++) {
                for (int side = 0; side < 9; side++) {
                    int right = side % 3 - 1;
                    int down = side / 3 - 1;
                    if (corners || right == 0 || down == 0) {
                        reach(from, limits, xAt(i) + right, yAt(i) + down, value);
                    }
                }
            }
        }

        int xAt(int i) {
            return i >= 0 && i < size ? places[i] % SIDE : NONE;
        }

        int yAt(int i) {
            return i >= 0 && i < size ? places[i] / SIDE : NONE;
        }

        private void reach(Sheet from, Box limits, int x, int y, int value) {
            if (!from.has(x, y) || !limits.holds(x, y) || from.at(x, y) != value) {
                return;
            }
            int place = y * SIDE + x;
            if (seen[place] == 0 && size < SIDE * SIDE) {
                seen[place] = 1;
                places[size] = place;
                size++;
            }
        }
    }
}
