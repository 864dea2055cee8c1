import java.util.ArrayList;
import java.util.List;

/**
 * "A call that is refused (NONE, false) changes nothing": each argument of each call at the ends of its range, where
 * the call is taken, and beyond them, where it is refused and the bench goes on as one that was never asked.
 */
public final class RefusedTest {
    private static final Check CHECK = new Check();
    private static final int LEAST = Integer.MIN_VALUE;
    private static final int MOST = Integer.MAX_VALUE;
    private static final int W = 5;
    private static final int H = 4;

    private static final int[] ANY = {LEAST, MOST};
    private static final int[] SHEET = {0, 3};
    private static final int[] SIDE = {1, 64};
    private static final int[] SIDE_OR_NOTHING = {0, 64};
    private static final int[] END = {-2000, 2000};
    private static final int[] POINT = {-4096, 4096};
    private static final int[] PLACE = {-200, 200};
    private static final int[] RULE = {0, 1};
    private static final int[] X = {0, W - 1};
    private static final int[] Y = {0, H - 1};

    private interface Call {
        int on(DotBench x, int[] a);
    }

    /** A call, its answer when it is refused, arguments that it takes, and the least and the most of each. */
    private record Kind(String name, int refused, Call call, int[] right, int[]... ranges) {
    }

    private static final Kind[] KINDS = {
        new Kind("Promise 2, sheet", 0, (x, a) -> x.sheet(a[0], a[1], a[2]) ? 1 : 0, new int[] {1, 3, 2},
                SHEET, SIDE, SIDE),
        new Kind("Promise 4, way", 0, (x, a) -> x.way(a[0], a[1]) ? 1 : 0, new int[] {5, 77},
                new int[] {0, 12}, new int[] {0, 255}),
        new Kind("Promise 7, line", -1, (x, a) -> x.line(a[0], a[1], a[2], a[3], a[4]), new int[] {0, 0, 3, 4, 1},
                SHEET, END, END, END, END),
        new Kind("Promise 8, circle", -1, (x, a) -> x.circle(a[0], a[1], a[2], a[3]), new int[] {3, 1, 2, 1},
                SHEET, END, END, new int[] {0, 500}),
        new Kind("Promise 9, point", -1, (x, a) -> x.point(a[0], a[1], false), new int[] {16, 48}, POINT, POINT),
        new Kind("Promise 9, point that begins", -1, (x, a) -> x.point(a[0], a[1], true), new int[] {16, 48},
                POINT, POINT),
        new Kind("Promise 11, fill", -1, (x, a) -> x.fill(a[0], a[1], false), new int[] {2, 1}, SHEET, RULE),
        new Kind("Promise 11, fill, smoothed", -1, (x, a) -> x.fill(a[0], a[1], true), new int[] {2, 0}, SHEET, RULE),
        new Kind("Promise 12, corner 0", 0, (x, a) -> x.corner(a[0], a[1], a[2], a[3]) ? 1 : 0,
                new int[] {0, 3, 4, 0x12345678}, new int[] {0, 2}, PLACE, PLACE, ANY),
        new Kind("Promise 12, corner 1", 0, (x, a) -> x.corner(a[0], a[1], a[2], a[3]) ? 1 : 0,
                new int[] {1, 3, 4, 0x12345678}, new int[] {0, 2}, PLACE, PLACE, ANY),
        new Kind("Promise 12, corner 2", 0, (x, a) -> x.corner(a[0], a[1], a[2], a[3]) ? 1 : 0,
                new int[] {2, 3, 4, 0x12345678}, new int[] {0, 2}, PLACE, PLACE, ANY),
        new Kind("Promise 13, shade", -1, (x, a) -> x.shade(a[0]), new int[] {1}, SHEET),
        new Kind("Promise 14, flood by sides", -1, (x, a) -> x.flood(a[0], a[1], a[2], false), new int[] {1, 1, 1},
                SHEET, X, Y),
        new Kind("Promise 14, flood by corners", -1, (x, a) -> x.flood(a[0], a[1], a[2], true), new int[] {1, 1, 1},
                SHEET, X, Y),
        new Kind("Promise 15, copy", -1, (x, a) -> x.copy(a[0], a[1], a[2], a[3], a[4], a[5], a[6], a[7]),
                new int[] {0, 1, 1, 2, 2, 3, 1, 0}, SHEET, PLACE, PLACE, SIDE_OR_NOTHING, SIDE_OR_NOTHING,
                SHEET, PLACE, PLACE),
        new Kind("Promise 16, stretch", -1,
                (x, a) -> x.stretch(a[0], a[1], a[2], a[3], a[4], a[5], a[6], a[7], a[8], a[9]),
                new int[] {0, 1, 1, 2, 2, 3, 1, 0, 3, 3}, SHEET, PLACE, PLACE, SIDE, SIDE, SHEET, PLACE, PLACE,
                SIDE, SIDE),
        new Kind("Promise 18, count", -1, (x, a) -> x.count(a[0], a[1]), new int[] {0, 0}, SHEET, ANY),
        new Kind("Promise 19, region by sides", -1, (x, a) -> x.region(a[0], a[1], a[2], false), new int[] {0, 0, 0},
                SHEET, X, Y),
        new Kind("Promise 19, region by corners", -1, (x, a) -> x.region(a[0], a[1], a[2], true), new int[] {0, 0, 0},
                SHEET, X, Y),
        new Kind("Promise 20, differ", -1, (x, a) -> x.differ(a[0], a[1]), new int[] {0, 1}, SHEET, SHEET),
        new Kind("Promise 21, look", -1, (x, a) -> x.look(a[0], a[1]), new int[] {0, 0}, SHEET, new int[] {0, 9}),
        new Kind("Promise 22, inside", -1, (x, a) -> x.inside(a[0], a[1], a[2]), new int[] {40, 40, 1},
                ANY, ANY, RULE),
    };

    public static void main(String[] args) {
        CHECK.about("A call that is refused (NONE, false) changes nothing");
        for (Kind kind : KINDS) {
            oneArgument(kind);
            twoArguments(kind);
            sheetsThatAreNotThere(kind);
        }
        pathThatIsFull();
        sheetsOfOtherSizes();
        CHECK.end();
    }

    /** A bench with nothing as it was at first; the SHEETS told are there. */
    private static DotBench used(int... sheets) {
        DotBench x = new DotBench();
        x.way(3, 210);
        for (int k : sheets) {
            x.sheet(k, W, H);
            x.ink(0xC0FF8040 + 0x1F * k);
            x.line(k, 0, k, 4, 3 - k);
            x.circle(k, 2, 2, 1);
        }
        x.way(11, 200);
        x.clip(0, 0, 3, 3);
        x.dashes(0xB6DB);
        x.point(4, 4, true);
        x.point(70, 10, false);
        x.point(40, 60, false);
        x.point(20, 20, true);
        x.point(50, 30, false);
        x.corner(0, 0, 0, 0xFF00FF00);
        x.corner(1, 5, 1, 0x80FF00FF);
        x.corner(2, 1, 4, 0x40FFFFFF);
        return x;
    }

    private static void addDots(DotBench x, List<Integer> story) {
        for (int i = 0; i < 4 * W * H; i++) {
            story.add(x.dot(i / (W * H), i % W, i / W % H));
        }
    }

    /** What a bench answers from here on: every part of its state has its say. */
    private static List<Integer> story(DotBench x) {
        List<Integer> story = new ArrayList<>();
        for (int k = 0; k < 4; k++) {
            story.add(x.look(k, 4));
            story.add(x.look(k, 5));
        }
        addDots(x, story);
        for (int i = 0; i < 16; i++) {
            story.add(x.inside(16 + i % 4 * 32, 16 + i / 4 * 32, 1));
        }
        story.add(x.line(0, 0, 0, 4, 3));
        story.add(x.shade(1));
        story.add(x.fill(2, 0, true));
        story.add(x.point(30, 64, false));
        story.add(x.fill(3, 1, true));
        story.add(x.copy(0, 0, 0, 3, 3, 1, 1, 1));
        story.add(x.flood(0, 0, 0, true));
        addDots(x, story);
        return story;
    }

    private static String told(Kind kind, int[] a) {
        StringBuilder line = new StringBuilder(kind.name()).append(" of");
        for (int one : a) {
            line.append(' ').append(one);
        }
        return line.toString();
    }

    private static boolean isRight(Kind kind, int[] a) {
        for (int i = 0; i < a.length; i++) {
            if (a[i] < kind.ranges()[i][0] || a[i] > kind.ranges()[i][1]) {
                return false;
            }
        }
        return true;
    }

    private static void ask(Kind kind, int[] a) {
        DotBench x = used(0, 1, 2, 3);
        boolean refused = kind.call().on(x, a) == kind.refused();
        CHECK.due(told(kind, a) + " is refused", refused, !isRight(kind, a));
        if (refused) {
            CHECK.due(told(kind, a) + " changes nothing", story(x).equals(story(used(0, 1, 2, 3))), true);
        }
    }

    /** The ends of a range, what lies just beyond, and what a narrower number would hold to be within it. */
    private static int[] tries(int[] range) {
        if (range == ANY) {
            return ANY;
        }
        int least = range[0];
        int most = range[1];
        return new int[] {LEAST, LEAST + least, -65536 + most, -256 + least, least - 1, least, most, most + 1, 256 + most,
            65536 + least, 65536 + most, MOST - 1, MOST};
    }

    private static void oneArgument(Kind kind) {
        for (int i = 0; i < kind.right().length; i++) {
            for (int value : tries(kind.ranges()[i])) {
                int[] a = kind.right().clone();
                a[i] = value;
                ask(kind, a);
            }
        }
    }

    private static void twoArguments(Kind kind) {
        for (int i = 0; i < kind.right().length; i++) {
            for (int j = 0; j < i; j++) {
                if (kind.ranges()[i] != ANY && kind.ranges()[j] != ANY) {
                    int[] a = kind.right().clone();
                    a[i] = kind.ranges()[i][0] - 1;
                    a[j] = kind.ranges()[j][1] + 1;
                    ask(kind, a);
                }
            }
        }
    }

    private static void sheetsThatAreNotThere(Kind kind) {
        for (int i = 0; i < kind.right().length; i++) {
            for (int k = 0; k < 4 && kind.ranges()[i] == SHEET && !kind.name().endsWith(" sheet"); k++) {
                int[] others = {(k + 1) % 4, (k + 2) % 4, (k + 3) % 4};
                int[] a = kind.right().clone();
                for (int j = 0; j < a.length; j++) {
                    a[j] = kind.ranges()[j] == SHEET ? others[j % 3] : a[j];
                }
                CHECK.due(told(kind, a) + ", all there", kind.call().on(used(others), a) != kind.refused(), true);
                a[i] = k;
                DotBench x = used(others);
                CHECK.due(told(kind, a) + ", not there", kind.call().on(x, a), kind.refused());
                CHECK.due(told(kind, a) + " changes nothing", story(x).equals(story(used(others))), true);
            }
        }
    }

    private static void pathThatIsFull() {
        CHECK.about("NONE: 48 are there, or x, y");
        for (int begins = 0; begins < 2; begins++) {
            DotBench x = used(0, 1, 2, 3);
            DotBench twin = used(0, 1, 2, 3);
            for (int i = 6; i <= 48; i++) {
                CHECK.due("POINT " + i, x.point(i, 90 - i, false), i);
                twin.point(i, 90 - i, false);
            }
            CHECK.due("POINT 49", x.point(0, 40, begins == 1), -1);
            CHECK.due("and an x of none", x.point(4097, 40, begins == 1), -1);
            CHECK.due("changes nothing", story(x).equals(story(twin)), true);
        }
    }

    private static void sheetsOfOtherSizes() {
        CHECK.about("NONE: no such ones, other sizes");
        int[][] sizes = {{W, H - 1}, {W - 1, H}, {W + 1, H}, {W, H + 1}, {H, W}, {1, 1}, {2 * W, H / 2}, {64, 64}};
        for (int[] size : sizes) {
            DotBench x = used(0, 1, 2, 3);
            DotBench twin = used(0, 1, 2, 3);
            x.sheet(2, size[0], size[1]);
            twin.sheet(2, size[0], size[1]);
            CHECK.due("differ(0, 2)", x.differ(0, 2), -1);
            CHECK.due("differ(2, 0)", x.differ(2, 0), -1);
            CHECK.due("differ(2, 2)", x.differ(2, 2), 0);
            CHECK.due("changes nothing", story(x).equals(story(twin)), true);
        }
    }
}
