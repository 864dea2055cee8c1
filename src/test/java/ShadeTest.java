/** Promises 12 and 13: corner, shade. */
public final class ShadeTest {
    private static final Check CHECK = new Check();

    public static void main(String[] args) {
        oneColour();
        mixture();
        turnedEitherWay();
        withoutArea();
        wrongCorners();
        halves();
        CHECK.end();
    }

    private static void oneColour() {
        DotBench x = Check.benchWith(5, 5);
        for (int i = 0; i < 3; i++) {
            CHECK.due("corner " + i, x.corner(i, i == 1 ? 4 : 0, i == 2 ? 4 : 0, 0xFF336699), true);
        }
        CHECK.due("shade", x.shade(0), 6);
        CHECK.drawing("shade", x, 0, "###..", "##...", "#....", ".....", ".....");
        CHECK.due("of one colour", x.count(0, 0xFF336699), 6);
        x.clip(1, 0, 1, 9);
        CHECK.due("in THE CLIP", x.shade(0), 2);
    }

    private static void mixture() {
        DotBench x = Check.benchWith(4, 4);
        x.corner(0, 0, 0, 0xFFFF0000);
        x.corner(1, 4, 0, 0xFF00FF00);
        x.corner(2, 0, 4, 0xFF0000FF);
        x.shade(0);
        // w is 64; at (0, 0) wb and wc are 8 each: 255 * 48 / 64 = 191.25, 255 * 8 / 64 = 31.875.
        CHECK.due("at 0 0", x.dot(0, 0, 0), 0xFFBF1F1F);
        CHECK.due("at 1 0", x.dot(0, 1, 0), 0xFF7F5F1F);
        CHECK.due("at 0 2", x.dot(0, 0, 2), 0xFF3F1F9F);
    }

    private static void turnedEitherWay() {
        DotBench x = Check.benchWith(8, 8);
        x.sheet(1, 8, 8);
        int[][] places = {{1, 1, 0x80FF00FF}, {7, 2, 0xFF00FF00}, {3, 8, 0x40FFFFFF}};
        for (int i = 0; i < 3; i++) {
            x.corner(i, places[i][0], places[i][1], places[i][2]);
        }
        int touched = x.shade(0);
        for (int i = 0; i < 3; i++) {
            x.corner(2 - i, places[i][0], places[i][1], places[i][2]);
        }
        CHECK.due("the other turn", x.shade(1), touched);
        CHECK.due("the same DOTS", x.differ(0, 1), 0);
        CHECK.due("its own count", x.count(0, 0), 64 - touched);
    }

    private static void withoutArea() {
        DotBench x = Check.benchWith(8, 8);
        CHECK.due("at first all at 0 0", x.shade(0), 0);
        x.corner(0, 0, 0, -1);
        x.corner(1, 8, 8, -1);
        x.corner(2, 4, 4, -1);
        CHECK.due("three in a row", x.shade(0), 0);
        CHECK.due("nothing drawn", x.count(0, 0), 64);
        x.corner(2, 8, 0, 0);
        CHECK.due("TOUCHED by INKS of little", x.shade(0), 36);
        DotBench fresh = Check.benchWith(4, 4);
        fresh.way(1, 255);
        fresh.flood(0, 0, 0, false);
        fresh.corner(1, 4, 0, 0);
        fresh.corner(2, 4, 4, 0);
        CHECK.due("the first INKS are 0", fresh.shade(0), 10);
        CHECK.due("by SOURCE", fresh.count(0, 0), 10);
    }

    private static void wrongCorners() {
        DotBench x = Check.benchWith(4, 4);
        int[][] wrong = {{-1, 0, 0}, {3, 0, 0}, {0, 201, 0}, {0, 0, -201}, {Integer.MAX_VALUE, 0, 0},
            {0, Integer.MIN_VALUE, 0}, {1, 0, Integer.MAX_VALUE}};
        for (int[] one : wrong) {
            CHECK.due("a wrong corner", x.corner(one[0], one[1], one[2], -1), false);
        }
        CHECK.due("corner at the far end", x.corner(0, -200, -200, -1), true);
        CHECK.due("corner at the other", x.corner(1, 200, -200, -1), true);
        CHECK.due("corner at the last", x.corner(2, 0, 200, -1), true);
        CHECK.due("refused", x.corner(2, 0, 300, 0), false);
        CHECK.due("shade of SHEET 1", x.shade(1), -1);
        CHECK.due("shade of SHEET 4", x.shade(4), -1);
        CHECK.due("shade of all", x.shade(0), 16);
        CHECK.due("by what the corners were", x.count(0, -1), 16);
    }

    private static void halves() {
        DotBench x = Check.benchWith(2, 2);
        x.way(3, 128);
        x.corner(0, 0, 0, -1);
        x.corner(1, 8, 0, -1);
        x.corner(2, 0, 8, -1);
        CHECK.due("shade with OPACITY", x.shade(0), 4);
        CHECK.due("by half", x.count(0, 0x80808080), 4);
    }
}
