import java.util.ArrayDeque;
import java.util.ArrayList;
import java.util.HashSet;
import java.util.LinkedHashSet;
import java.util.List;
import java.util.Set;

/** The document written out a second time, as plainly and slowly as can be, to hold DotBench against. */
final class PlainBench {
    private final int[][][] sheets = new int[4][][];
    private final List<List<int[]>> contours = new ArrayList<>();
    private final int[][] corners = new int[3][3];
    private int points = 0;
    private int ink = -1;
    private int way = 3;
    private int opacity = 255;
    private int dashes = 0xFFFF;
    private int[] clip = {Integer.MIN_VALUE, Integer.MIN_VALUE, Integer.MAX_VALUE, Integer.MAX_VALUE};

    private record Place(int x, int y) {
    }

    private boolean there(int k) {
        return k >= 0 && k < 4 && sheets[k] != null;
    }

    private boolean there(int k, int x, int y) {
        return there(k) && y >= 0 && y < sheets[k].length && x >= 0 && x < sheets[k][0].length;
    }

    private boolean clipped(int x, int y) {
        return x < clip[0] || x > clip[2] || y < clip[1] || y > clip[3];
    }

    private static boolean off(int most, int... numbers) {
        for (int n : numbers) {
            if (n < -most || n > most) {
                return true;
            }
        }
        return false;
    }

    private static boolean noSides(int least, int... numbers) {
        for (int n : numbers) {
            if (n < least || n > 64) {
                return true;
            }
        }
        return false;
    }

    private static int weighed(int colour) {
        int a = colour >>> 24;
        int value = a;
        for (int part = 2; part >= 0; part--) {
            value = value * 256 + (int) Math.floor((colour >>> 8 * part & 255) * a / 255.0 + 0.5);
        }
        return value;
    }

    private int lay(int k, int x, int y, int source, int m) {
        if (!there(k, x, y) || clipped(x, y)) {
            return 0;
        }
        sheets[k][y][x] = LayingTest.plain(way, m, sheets[k][y][x], source);
        return 1;
    }

    private int layAll(int k, Set<Place> places) {
        int touched = 0;
        for (Place place : places) {
            touched += lay(k, place.x(), place.y(), ink, opacity);
        }
        return touched;
    }

    boolean sheet(int k, int w, int h) {
        if (k < 0 || k > 3 || noSides(1, w, h)) {
            return false;
        }
        sheets[k] = new int[h][w];
        return true;
    }

    void ink(int colour) {
        ink = weighed(colour);
    }

    boolean way(int newWay, int newOpacity) {
        if (newWay < 0 || newWay > 12 || newOpacity < 0 || newOpacity > 255) {
            return false;
        }
        way = newWay;
        opacity = newOpacity;
        return true;
    }

    void clip(int x0, int y0, int x1, int y1) {
        clip = new int[] {x0, y0, x1, y1};
    }

    void dashes(int bits) {
        dashes = bits;
    }

    /** Of the candidates from a to b, the nearest to num / den above a; of two the nearer to a. */
    private static int nearest(int a, int b, long num, long den) {
        int best = a;
        int step = b >= a ? 1 : -1;
        for (int c = a; c != b + step; c += step) {
            long miss = Math.abs(Math.abs(c - a) * den - num);
            if (miss < Math.abs(Math.abs(best - a) * den - num)) {
                best = c;
            }
        }
        return best;
    }

    int line(int k, int x0, int y0, int x1, int y1) {
        if (!there(k) || off(2000, x0, y0, x1, y1)) {
            return -1;
        }
        int dx = Math.abs(x1 - x0);
        int dy = Math.abs(y1 - y0);
        Set<Place> places = new LinkedHashSet<>();
        for (int i = 0; i <= Math.max(dx, dy); i++) {
            int x = dx >= dy ? x0 + (x1 > x0 ? i : -i) : nearest(x0, x1, (long) i * dx, dy);
            int y = dx < dy ? y0 + (y1 > y0 ? i : -i) : nearest(y0, y1, (long) i * dy, Math.max(1, dx));
            if ((dashes & 1 << i % 16) != 0) {
                places.add(new Place(x, y));
            }
        }
        return layAll(k, places);
    }

    int circle(int k, int x, int y, int r) {
        if (!there(k) || off(2000, x, y) || r < 0 || r > 500) {
            return -1;
        }
        Set<Place> places = new HashSet<>();
        for (int a = 0; a <= r; a++) {
            int b = (int) Math.round(Math.sqrt(r * r - a * a));
            for (int turn = 0; turn < 4 && a <= b; turn++) {
                int right = turn % 2 == 0 ? 1 : -1;
                int down = turn < 2 ? 1 : -1;
                places.add(new Place(x + right * a, y + down * b));
                places.add(new Place(x + right * b, y + down * a));
            }
        }
        return layAll(k, places);
    }

    int point(int x, int y, boolean begins) {
        if (points == 48 || off(4096, x, y)) {
            return -1;
        }
        if (begins || contours.isEmpty()) {
            contours.add(new ArrayList<>());
        }
        contours.get(contours.size() - 1).add(new int[] {2 * x, 2 * y});
        return ++points;
    }

    void clear() {
        contours.clear();
        points = 0;
    }

    private static int winding(List<List<int[]>> shape, long u, long v) {
        int sum = 0;
        for (List<int[]> contour : shape) {
            for (int i = 0; i < contour.size(); i++) {
                int[] a = contour.get(i);
                int[] b = contour.get((i + 1) % contour.size());
                boolean up = a[1] <= v && v < b[1];
                boolean down = b[1] <= v && v < a[1];
                // x at v <= u, multiplied by the positive height of the EDGE.
                long height = Math.abs(b[1] - a[1]);
                long along = (long) (b[0] - a[0]) * Math.abs(v - a[1]);
                if ((up || down) && along <= (u - a[0]) * height) {
                    sum += up ? 1 : -1;
                }
            }
        }
        return sum;
    }

    private static boolean in(List<List<int[]>> shape, long u, long v, int rule) {
        int sum = winding(shape, u, v);
        return rule == 0 ? sum % 2 != 0 : sum != 0;
    }

    int fill(int k, int rule, boolean smooth) {
        if (!there(k) || rule < 0 || rule > 1) {
            return -1;
        }
        int touched = 0;
        for (int y = 0; y < sheets[k].length; y++) {
            for (int x = 0; x < sheets[k][0].length; x++) {
                int c = 0;
                for (int s = 0; s < 16 && smooth; s++) {
                    c += in(contours, 32 * x + 8 * (s % 4) + 4, 32 * y + 8 * (s / 4) + 4, rule) ? 1 : 0;
                }
                if (smooth && c != 0) {
                    touched += lay(k, x, y, ink, (int) Math.floor(opacity * c / 16.0 + 0.5));
                }
                if (!smooth && in(contours, 32 * x + 16, 32 * y + 16, rule)) {
                    touched += lay(k, x, y, ink, opacity);
                }
            }
        }
        return touched;
    }

    boolean corner(int i, int x, int y, int colour) {
        if (i < 0 || i > 2 || off(200, x, y)) {
            return false;
        }
        corners[i] = new int[] {x, y, weighed(colour)};
        return true;
    }

    /** The double area, four times, of a triangle of places in halves of a DOT. */
    private static long area(int ax, int ay, int[] b, int[] c) {
        return Math.abs((long) (2 * b[0] - ax) * (2 * c[1] - ay) - (long) (2 * c[0] - ax) * (2 * b[1] - ay));
    }

    int shade(int k) {
        if (!there(k)) {
            return -1;
        }
        long w = area(2 * corners[0][0], 2 * corners[0][1], corners[1], corners[2]);
        if (w == 0) {
            return 0;
        }
        List<int[]> outline = new ArrayList<>();
        for (int[] corner : corners) {
            outline.add(new int[] {32 * corner[0], 32 * corner[1]});
        }
        int touched = 0;
        for (int y = 0; y < sheets[k].length; y++) {
            for (int x = 0; x < sheets[k][0].length; x++) {
                if (in(List.of(outline), 32 * x + 16, 32 * y + 16, 1)) {
                    long[] parts = new long[3];
                    for (int i = 0; i < 3; i++) {
                        parts[i] = area(2 * x + 1, 2 * y + 1, corners[(i + 1) % 3], corners[(i + 2) % 3]);
                    }
                    touched += lay(k, x, y, mixture(parts, w), opacity);
                }
            }
        }
        return touched;
    }

    private int mixture(long[] parts, long w) {
        int value = 0;
        for (int part = 3; part >= 0; part--) {
            long sum = 0;
            for (int i = 0; i < 3; i++) {
                sum += parts[i] * (corners[i][2] >>> 8 * part & 255);
            }
            value = value * 256 + (int) Math.floorDiv(sum, w);
        }
        return value;
    }

    private Set<Place> together(int k, int x, int y, boolean byCorners, boolean inClip) {
        Set<Place> found = new HashSet<>();
        ArrayDeque<Place> next = new ArrayDeque<>();
        next.add(new Place(x, y));
        while (!next.isEmpty()) {
            Place p = next.poll();
            if (there(k, p.x(), p.y()) && sheets[k][p.y()][p.x()] == sheets[k][y][x]
                    && !(inClip && clipped(p.x(), p.y())) && found.add(p)) {
                for (int i = -1; i <= 1; i++) {
                    for (int j = -1; j <= 1; j++) {
                        if (byCorners || i * j == 0) {
                            next.add(new Place(p.x() + i, p.y() + j));
                        }
                    }
                }
            }
        }
        return found;
    }

    int flood(int k, int x, int y, boolean byCorners) {
        return there(k, x, y) ? layAll(k, together(k, x, y, byCorners, true)) : -1;
    }

    int region(int k, int x, int y, boolean byCorners) {
        return there(k, x, y) ? together(k, x, y, byCorners, false).size() : -1;
    }

    int copy(int k, int x, int y, int w, int h, int q, int X, int Y) {
        if (!there(k) || !there(q) || noSides(0, w, h) || off(200, x, y, X, Y)) {
            return -1;
        }
        int[][] source = new int[sheets[k].length][];
        for (int row = 0; row < source.length; row++) {
            source[row] = sheets[k][row].clone();
        }
        int touched = 0;
        for (int i = 0; i < w; i++) {
            for (int j = 0; j < h; j++) {
                if (there(k, x + i, y + j)) {
                    touched += lay(q, X + i, Y + j, source[y + j][x + i], opacity);
                }
            }
        }
        return touched;
    }

    int stretch(int k, int x, int y, int w, int h, int q, int X, int Y, int W, int H) {
        if (!there(k) || !there(q) || noSides(1, w, h, W, H) || off(200, x, y, X, Y)) {
            return -1;
        }
        int[][] source = new int[sheets[k].length][];
        for (int row = 0; row < source.length; row++) {
            source[row] = sheets[k][row].clone();
        }
        int touched = 0;
        for (int i = 0; i < W; i++) {
            for (int j = 0; j < H; j++) {
                int fromX = Math.floorDiv(x * W + i * w, W);
                int fromY = Math.floorDiv(y * H + j * h, H);
                if (there(k, fromX, fromY)) {
                    touched += lay(q, X + i, Y + j, source[fromY][fromX], opacity);
                }
            }
        }
        return touched;
    }

    int dot(int k, int x, int y) {
        return there(k, x, y) ? sheets[k][y][x] : 0;
    }

    int count(int k, int value) {
        if (!there(k)) {
            return -1;
        }
        int found = 0;
        for (int[] row : sheets[k]) {
            for (int one : row) {
                found += one == value ? 1 : 0;
            }
        }
        return found;
    }

    int differ(int k, int q) {
        if (!there(k) || !there(q) || sheets[k].length != sheets[q].length
                || sheets[k][0].length != sheets[q][0].length) {
            return -1;
        }
        int found = 0;
        for (int y = 0; y < sheets[k].length; y++) {
            for (int x = 0; x < sheets[k][0].length; x++) {
                found += sheets[k][y][x] == sheets[q][y][x] ? 0 : 1;
            }
        }
        return found;
    }

    int look(int k, int what) {
        if (!there(k) || what < 0 || what > 9) {
            return -1;
        }
        int[] answers = {99, -1, 99, -1, sheets[k][0].length, sheets[k].length, 0, 0, 0, 0};
        for (int y = 0; y < sheets[k].length; y++) {
            for (int x = 0; x < sheets[k][0].length; x++) {
                int value = sheets[k][y][x];
                for (int part = 0; part < 4; part++) {
                    answers[6 + part] += value >>> 24 - 8 * part & 255;
                }
                if (value >>> 24 != 0) {
                    answers[0] = Math.min(answers[0], x);
                    answers[1] = Math.max(answers[1], x);
                    answers[2] = Math.min(answers[2], y);
                    answers[3] = Math.max(answers[3], y);
                }
            }
        }
        return answers[what] == 99 && what < 4 ? -1 : answers[what];
    }

    int inside(int u, int v, int rule) {
        return rule < 0 || rule > 1 ? -1 : in(contours, u, v, rule) ? 1 : 0;
    }
}
