/** Promises 9, 10, 11 and 22: point, clear, fill, inside. */
public final class PathTest {
    private static final Check CHECK = new Check();

    public static void main(String[] args) {
        point();
        squareBySides();
        centresOnEdges();
        rules();
        contoursCloseThemselves();
        smoothing();
        smoothingByOpacity();
        inside();
        sidesOfTheSheet();
        wrongFills();
        CHECK.end();
    }

    private static void point() {
        DotBench x = new DotBench();
        int[][] wrong = {{4097, 0}, {0, 4097}, {-4097, 0}, {0, -4097}, {Integer.MIN_VALUE, 0}, {0, Integer.MAX_VALUE}};
        for (int[] one : wrong) {
            CHECK.due("point(" + one[0] + ", " + one[1] + ")", x.point(one[0], one[1], true), -1);
        }
        for (int i = 1; i <= 48; i++) {
            CHECK.due("point " + i, x.point(i % 2 == 0 ? 4096 : -4096, i % 3 == 0 ? 4096 : -4096, i % 5 == 0), i);
        }
        CHECK.due("the 49th", x.point(0, 0, false), -1);
        x.clear();
        CHECK.due("after clear: empty", x.inside(0, 0, 1), 0);
        CHECK.due("after clear: the first", x.point(0, 0, false), 1);
        CHECK.due("a refused POINT is not there", x.point(5000, 0, false), -1);
        CHECK.due("the second", x.point(1, 1, true), 2);
    }

    private static void squareBySides() {
        DotBench x = Check.benchWith(6, 5);
        Check.rectangle(x, 16, 16, 64, 48, false);
        CHECK.due("fill of 3 times 2 DOTS", x.fill(0, 0, false), 6);
        CHECK.drawing("fill", x, 0, "......", ".###..", ".###..", "......", "......");
        CHECK.due("THE PATH stays", x.fill(0, 1, false), 6);
        CHECK.due("smoothed", x.fill(0, 1, true), 6);
        x.clip(2, 0, 9, 1);
        CHECK.due("in THE CLIP", x.fill(0, 1, false), 2);
    }

    private static void centresOnEdges() {
        // Sides through the centres: the left and the upper ones are INSIDE, the right and the lower ones not.
        DotBench x = Check.benchWith(6, 5);
        Check.rectangle(x, 24, 24, 72, 56, true);
        CHECK.due("fill from centre to centre", x.fill(0, 1, false), 6);
        CHECK.drawing("fill", x, 0, "......", ".###..", ".###..", "......", "......");
    }

    private static void rules() {
        DotBench x = Check.benchWith(5, 5);
        Check.rectangle(x, 0, 0, 80, 80, false);
        Check.rectangle(x, 16, 16, 64, 64, false);
        CHECK.due("rule 0 leaves a hole", x.fill(0, 0, false), 16);
        CHECK.drawing("rule 0", x, 0, "#####", "#...#", "#...#", "#...#", "#####");
        CHECK.due("rule 1 leaves none of the same turn", x.fill(0, 1, false), 25);
        x.clear();
        Check.rectangle(x, 0, 0, 80, 80, false);
        Check.rectangle(x, 16, 16, 64, 64, true);
        CHECK.due("rule 1 leaves a hole of the other turn", x.fill(0, 1, false), 16);
        Check.rectangle(x, 32, 32, 48, 48, true);
        CHECK.due("a WINDING of -1 is not 0", x.fill(0, 1, false), 17);
        CHECK.due("and odd", x.fill(0, 0, false), 17);
    }

    private static void contoursCloseThemselves() {
        DotBench x = Check.benchWith(4, 4);
        x.point(0, 0, false);
        CHECK.due("one POINT fills nothing", x.fill(0, 1, true), 0);
        x.point(64, 0, false);
        x.point(0, 64, false);
        // The long side goes through the centres of a diagonal, and those on it are not left of it.
        CHECK.due("a triangle of three POINTS", x.fill(0, 1, false), 6);
        CHECK.drawing("the triangle", x, 0, "###.", "##..", "#...", "....");
        x.point(64, 64, true);
        x.point(0, 64, false);
        CHECK.due("a CONTOUR of two POINTS adds nothing", x.fill(0, 1, false), 6);
    }

    private static void smoothing() {
        DotBench x = Check.benchWith(4, 3);
        // From 1/4 to 2 + 3/8 along x: 12, 16 and 4 samples (the one at 3/8 is on the right side and not INSIDE).
        Check.rectangle(x, 4, 0, 38, 16, false);
        CHECK.due("three DOTS", x.fill(0, 0, true), 3);
        CHECK.due("c = 12", x.dot(0, 0, 0), 0xBFBFBFBF);
        CHECK.due("c = 16", x.dot(0, 1, 0), 0xFFFFFFFF);
        CHECK.due("c = 4", x.dot(0, 2, 0), 0x40404040);
        CHECK.due("c = 0", x.dot(0, 3, 0), 0);
        x.clear();
        Check.rectangle(x, 0, 33, 64, 34, false);
        CHECK.due("between the samples: none TOUCHED", x.fill(0, 0, true), 0);
        x.clear();
        Check.rectangle(x, 6, 38, 7, 39, false);
        CHECK.due("a single sample: TOUCHED", x.fill(0, 0, true), 1);
        CHECK.due("c = 1", x.dot(0, 0, 2), 0x10101010);
    }

    private static void smoothingByOpacity() {
        for (int opacity = 0; opacity <= 255; opacity += 5) {
            for (int c = 1; c <= 4; c++) {
                DotBench x = Check.benchWith(1, 1);
                x.way(3, opacity);
                Check.rectangle(x, 0, 0, 4 * c, 4, false);
                CHECK.due("TOUCHED also if it stays the same", x.fill(0, 1, true), 1);
                CHECK.due("ALPHA of " + opacity + " by " + c, x.dot(0, 0, 0) >>> 24, (2 * opacity * c + 16) / 32);
            }
        }
    }

    private static void inside() {
        DotBench x = new DotBench();
        Check.rectangle(x, 1, 1, 3, 4, false);
        int[][] rows = {{2, 2, 1}, {1, 2, 0}, {2, 1, 0}, {5, 7, 1}, {6, 7, 0}, {5, 8, 0}, {Integer.MAX_VALUE, 3, 0},
            {Integer.MIN_VALUE, 3, 0}, {3, Integer.MAX_VALUE, 0}, {3, Integer.MIN_VALUE, 0}};
        for (int[] one : rows) {
            CHECK.due("inside(" + one[0] + ", " + one[1] + ", 0)", x.inside(one[0], one[1], 0), one[2]);
            CHECK.due("inside(" + one[0] + ", " + one[1] + ", 1)", x.inside(one[0], one[1], 1), one[2]);
        }
        CHECK.due("inside of rule 2", x.inside(2, 2, 2), -1);
        CHECK.due("inside of rule -1", x.inside(2, 2, -1), -1);
        x.clear();
        // A slanting side: at v its x is v / 3, never to be rounded.
        x.point(0, 0, true);
        x.point(1000, 3000, false);
        x.point(4096, 3000, false);
        x.point(4096, 0, false);
        CHECK.due("x of 100/3 is above 33", x.inside(33, 100, 1), 0);
        CHECK.due("and not above 34", x.inside(34, 100, 1), 1);
        CHECK.due("x of 99/3 is not above 33", x.inside(33, 99, 1), 1);
        x.clear();
        x.point(-4096, -4096, true);
        x.point(4096, 4096, false);
        x.point(-4096, 4096, false);
        CHECK.due("the greatest EDGES, left of it", x.inside(8000, 8001, 0), 1);
        CHECK.due("the greatest EDGES, on it", x.inside(-8000, -8000, 0), 0);
    }

    private static void sidesOfTheSheet() {
        DotBench x = Check.benchWith(64, 64);
        Check.rectangle(x, 0, 0, 1024, 1024, false);
        CHECK.due("the greatest SHEET, smoothed", x.fill(0, 0, true), 4096);
        CHECK.due("all of it", x.count(0, -1), 4096);
        CHECK.due("the greatest SHEET", x.fill(0, 0, false), 4096);
        x.clear();
        Check.rectangle(x, 1024, 0, 1040, 1024, false);
        Check.rectangle(x, -16, 0, 0, 1024, true);
        CHECK.due("beside it, smoothed", x.fill(0, 1, true), 0);
        CHECK.due("beside it", x.fill(0, 1, false), 0);
    }

    private static void wrongFills() {
        DotBench x = Check.benchWith(2, 2);
        Check.rectangle(x, -4096, -4096, 4096, 4096, false);
        CHECK.due("fill of rule 2", x.fill(0, 2, false), -1);
        CHECK.due("fill of rule -1", x.fill(0, -1, true), -1);
        CHECK.due("fill of no SHEET", x.fill(1, 0, false), -1);
        CHECK.due("fill of SHEET -1", x.fill(-1, 0, false), -1);
        CHECK.due("nothing was drawn", x.count(0, 0), 4);
        CHECK.due("the whole SHEET", x.fill(0, 0, true), 4);
    }
}
