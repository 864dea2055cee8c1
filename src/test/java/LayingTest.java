/** Promises 3, 4 and 5: ink, way, clip, seen by what is LAID. */
public final class LayingTest {
    private static final Check CHECK = new Check();

    public static void main(String[] args) {
        ink();
        knownWays();
        allWays();
        opacity();
        wrongWays();
        clip();
        CHECK.end();
    }

    private static int laidOnEmpty(int colour) {
        DotBench x = Check.benchWith(1, 1);
        x.way(1, 255);
        x.ink(colour);
        x.line(0, 0, 0, 0, 0);
        return x.dot(0, 0, 0);
    }

    private static void ink() {
        CHECK.due("ink of 0", laidOnEmpty(0), 0);
        CHECK.due("ink of no ALPHA", laidOnEmpty(0x00FFFFFF), 0);
        CHECK.due("ink of full ALPHA", laidOnEmpty(0xFF123456), 0xFF123456);
        CHECK.due("ink of 0x80FF8040", laidOnEmpty(0x80FF8040), 0x80804020);
        // 1 * 127 / 255 is below a half, 1 * 128 / 255 above it.
        CHECK.due("ink of 0x7F010101", laidOnEmpty(0x7F010101), 0x7F000000);
        CHECK.due("ink of 0x80010203", laidOnEmpty(0x80010203), 0x80010102);
    }

    private static int laid(int way, int opacity, int below, int above) {
        DotBench x = Check.benchWith(1, 1);
        x.way(1, 255);
        x.ink(below);
        x.line(0, 0, 0, 0, 0);
        x.way(way, opacity);
        x.ink(above);
        CHECK.due("touched by way " + way, x.line(0, 0, 0, 0, 0), 1);
        return x.dot(0, 0, 0);
    }

    private static void knownWays() {
        // 0x80 of red above 0x40 of green, already weighed: 0x80800000 and 0x40004000.
        int[] want = {0, 0x80800000, 0x40004000, 0xA0802000, 0xA0604000, 0x20200000, 0x20002000,
            0x60600000, 0x20002000, 0x40202000, 0x80602000, 0x80602000, 0xC0804000};
        for (int way = 0; way <= 12; way++) {
            CHECK.due("way " + way, laid(way, 255, 0x4000FF00, 0x80FF0000), want[way]);
        }
    }

    private static int near(long n, long d) {
        return (int) Math.floorDiv(2 * n + d, 2 * d);
    }

    private static int weighed(int colour) {
        int a = colour >>> 24;
        return a << 24 | near((colour >> 16 & 255) * a, 255) << 16 | near((colour >> 8 & 255) * a, 255) << 8
                | near((colour & 255) * a, 255);
    }

    static int plain(int way, int m, int there, int source) {
        int s = source >>> 24;
        int d = there >>> 24;
        int[][] ways = {{0, 0}, {255, 0}, {0, 255}, {255, 255 - s}, {255 - d, 255}, {d, 0}, {0, s}, {255 - d, 0},
            {0, 255 - s}, {d, 255 - s}, {255 - d, s}, {255 - d, 255 - s}, {255, 255}};
        int value = 0;
        for (int part = 3; part >= 0; part--) {
            int from = source >>> 8 * part & 255;
            int old = there >>> 8 * part & 255;
            int v = Math.min(255, near(from * ways[way][0] + old * ways[way][1], 255));
            value = value * 256 + near(v * m + old * (255 - m), 255);
        }
        return value;
    }

    private static void allWays() {
        int[] colours = {0, 0xFFFFFFFF, 0xFF000000, 0x80FF8001, 0x01FFFFFF, 0xFE0180FF, 0x7F7F7F7F, 0x33CC9966};
        int[] measures = {0, 1, 127, 128, 254, 255};
        for (int way = 0; way <= 12; way++) {
            for (int below : colours) {
                for (int above : colours) {
                    for (int m : measures) {
                        CHECK.due("way(" + way + ", " + m + ") of " + above + " on " + below,
                                laid(way, m, below, above), plain(way, m, weighed(below), weighed(above)));
                    }
                }
            }
        }
    }

    private static void opacity() {
        CHECK.due("OPACITY 0 leaves the DOT", laid(3, 0, 0xFF102030, 0xFFFFFFFF), 0xFF102030);
        CHECK.due("OPACITY 128 of white on black", laid(3, 128, 0xFF000000, 0xFFFFFFFF), 0xFF808080);
        CHECK.due("PLUS is at most 255", laid(12, 255, 0xFFC8C8C8, 0xFFC8C8C8), 0xFFFFFFFF);
    }

    private static void wrongWays() {
        DotBench x = Check.benchWith(1, 1);
        CHECK.due("way(12, 255)", x.way(12, 255), true);
        CHECK.due("way(0, 0)", x.way(0, 0), true);
        CHECK.due("way(5, 77)", x.way(5, 77), true);
        int[][] wrong = {{-1, 255}, {13, 255}, {3, -1}, {3, 256}, {Integer.MAX_VALUE, 1}, {3, Integer.MIN_VALUE}};
        for (int[] one : wrong) {
            CHECK.due("way(" + one[0] + ", " + one[1] + ")", x.way(one[0], one[1]), false);
        }
        x.line(0, 0, 0, 0, 0);
        CHECK.due("a refused way changes nothing: IN nothing", x.dot(0, 0, 0), 0);
    }

    private static void clip() {
        DotBench x = Check.benchWith(6, 4);
        x.dashes(0x5555);
        x.clip(1, 1, 4, 2);
        CHECK.due("flood in THE CLIP", x.flood(0, 1, 1, false), 8);
        CHECK.drawing("clip(1, 1, 4, 2)", x, 0, "......", ".####.", ".####.", "......");
        x.clip(3, 0, 2, 3);
        CHECK.due("X0 above X1", x.line(0, 0, 0, 5, 0), 0);
        x.clip(0, 3, 5, 0);
        CHECK.due("Y0 above Y1", x.line(0, 0, 0, 5, 0), 0);
        x.clip(-50, -50, -1, 50);
        CHECK.due("left of the SHEET", x.line(0, 0, 0, 5, 0), 0);
        x.clip(Integer.MIN_VALUE, Integer.MIN_VALUE, Integer.MAX_VALUE, Integer.MAX_VALUE);
        CHECK.due("a clip of all leaves the DASHES", x.line(0, 0, 0, 5, 0), 3);
        x.clip(5, 3, 5, 3);
        x.sheet(0, 6, 4);
        x.dashes(-1);
        CHECK.due("THE CLIP stays with a new SHEET", x.line(0, 0, 3, 5, 3), 1);
        CHECK.due("its only DOT", x.dot(0, 5, 3), -1);
    }
}
