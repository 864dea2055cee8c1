/** Promises 6, 7 and 8: dashes, line, circle. */
public final class LinesTest {
    private static final Check CHECK = new Check();

    public static void main(String[] args) {
        ties();
        flatAndSteep();
        linesOffTheSheet();
        wrongLines();
        dashes();
        smallCircles();
        greatCircles();
        circlesTouchOnce();
        wrongCircles();
        CHECK.end();
    }

    private static void ties() {
        DotBench x = Check.benchWith(5, 3);
        CHECK.due("line(0, 0, 0, 4, 2)", x.line(0, 0, 0, 4, 2), 5);
        CHECK.drawing("line(0, 0, 0, 4, 2)", x, 0, "##...", "..##.", "....#");
        x.sheet(0, 5, 3);
        x.line(0, 4, 2, 0, 0);
        CHECK.drawing("line(0, 4, 2, 0, 0)", x, 0, "#....", ".##..", "...##");
        x.sheet(0, 5, 3);
        x.line(0, 0, 2, 4, 0);
        CHECK.drawing("line(0, 0, 2, 4, 0)", x, 0, "....#", "..##.", "##...");
        x.sheet(0, 3, 5);
        x.line(0, 2, 4, 0, 0);
        CHECK.drawing("line(0, 2, 4, 0, 0)", x, 0, "#..", ".#.", ".#.", "..#", "..#");
    }

    private static void flatAndSteep() {
        DotBench x = Check.benchWith(4, 4);
        CHECK.due("a LINE of one DOT", x.line(0, 2, 1, 2, 1), 1);
        CHECK.due("a flat LINE", x.line(0, 3, 3, 0, 3), 4);
        CHECK.due("a steep LINE", x.line(0, 0, 0, 0, 3), 4);
        CHECK.drawing("three LINES", x, 0, "#...", "#.#.", "#...", "####");
    }

    private static void linesOffTheSheet() {
        DotBench x = Check.benchWith(4, 4);
        CHECK.due("a LINE from end to end", x.line(0, -2000, -2000, 2000, 2000), 4);
        CHECK.drawing("the diagonal", x, 0, "#...", ".#..", "..#.", "...#");
        CHECK.due("a LINE that passes by", x.line(0, -2000, 2000, 2000, 2000), 0);
        x.sheet(0, 4, 4);
        // At x = 0 the LINE is at 0.5 exactly and comes from below.
        CHECK.due("a LINE through a corner", x.line(0, -1, 1, 1, 0), 2);
        CHECK.drawing("the one nearer to y0", x, 0, ".#..", "#...");
    }

    private static void wrongLines() {
        DotBench x = Check.benchWith(4, 4);
        int[][] wrong = {{2001, 0, 0, 0}, {0, -2001, 0, 0}, {0, 0, 2001, 0}, {0, 0, 0, -2001},
            {Integer.MIN_VALUE, 0, 0, 0}, {0, 0, 0, Integer.MAX_VALUE}};
        for (int[] one : wrong) {
            CHECK.due("a LINE with a wrong end", x.line(0, one[0], one[1], one[2], one[3]), -1);
        }
        CHECK.due("a LINE on no SHEET", x.line(1, 0, 0, 3, 3), -1);
        CHECK.due("a LINE on SHEET 4", x.line(4, 0, 0, 3, 3), -1);
        CHECK.due("nothing was drawn", x.count(0, 0), 16);
    }

    private static void dashes() {
        DotBench x = Check.benchWith(20, 2);
        x.dashes(0x8003);
        CHECK.due("DASHES from the left", x.line(0, 0, 0, 19, 0), 5);
        CHECK.due("DASHES from the right", x.line(0, 19, 1, 0, 1), 5);
        CHECK.drawing("dashes(0x8003)", x, 0, "##.............###..", "..###.............##");
        x.sheet(0, 20, 2);
        x.dashes(0xABCD0000);
        CHECK.due("only the sixteen lowest bits", x.line(0, 0, 0, 19, 0), 0);
        x.dashes(0xFFFF0001);
        CHECK.due("bit 0 alone", x.line(0, 0, 0, 19, 0), 2);
        x.dashes(2);
        CHECK.due("DOTS off the SHEET count for k", x.line(0, -17, 1, 3, 1), 1);
        CHECK.due("k = 17 is at 0", x.dot(0, 0, 1), -1);
        x.dashes(0);
        CHECK.due("no DASHES for a CIRCLE", x.circle(0, 5, 1, 0), 1);
    }

    private static void smallCircles() {
        DotBench x = Check.benchWith(7, 7);
        CHECK.due("circle of 0", x.circle(0, 3, 3, 0), 1);
        CHECK.drawing("circle of 0", x, 0, ".......", ".......", ".......", "...#...", ".......");
        x.sheet(0, 7, 7);
        CHECK.due("circle of 1", x.circle(0, 3, 3, 1), 4);
        CHECK.drawing("circle of 1", x, 0, ".......", ".......", "...#...", "..#.#..", "...#...", ".......");
        x.sheet(0, 7, 7);
        CHECK.due("circle of 2", x.circle(0, 3, 3, 2), 12);
        CHECK.drawing("circle of 2", x, 0, ".......", "..###..", ".#...#.", ".#...#.", ".#...#.", "..###..", ".......");
        x.sheet(0, 7, 7);
        CHECK.due("circle of 3", x.circle(0, 3, 3, 3), 16);
        CHECK.drawing("circle of 3", x, 0, "..###..", ".#...#.", "#.....#", "#.....#", "#.....#", ".#...#.", "..###..");
    }

    private static void greatCircles() {
        DotBench x = Check.benchWith(64, 64);
        for (int r = 0; r <= 31; r++) {
            x.sheet(0, 64, 64);
            int touched = x.circle(0, 31, 31, r);
            CHECK.due("TOUCHED by a circle of " + r, touched, x.count(0, -1));
            CHECK.due("its lowest x", x.look(0, 0), 31 - r);
            CHECK.due("its highest y", x.look(0, 3), 31 + r);
        }
        x.sheet(0, 64, 64);
        CHECK.due("circle of 500 at the SHEET's left", x.circle(0, 500, 0, 500) > 0, true);
        CHECK.due("its DOT at 0 0", x.dot(0, 0, 0), -1);
        CHECK.due("its DOT at 0 22", x.dot(0, 0, 22), -1);
        CHECK.due("its DOT at 1 23", x.dot(0, 1, 23), -1);
    }

    private static void circlesTouchOnce() {
        // With PLUS a DOT that is TOUCHED twice is twice as bright.
        DotBench x = Check.benchWith(64, 64);
        x.way(12, 255);
        x.ink(0x01000000);
        for (int r = 0; r <= 31; r++) {
            x.sheet(0, 64, 64);
            int touched = x.circle(0, 31, 31, r);
            CHECK.due("each DOT of a circle of " + r + " once", x.count(0, 0x01000000), touched);
            CHECK.due("and no other", x.look(0, 6), touched);
        }
    }

    private static void wrongCircles() {
        DotBench x = Check.benchWith(4, 4);
        int[][] wrong = {{2001, 0, 1}, {0, -2001, 1}, {0, 0, -1}, {0, 0, 501}, {Integer.MIN_VALUE, 0, 0},
            {0, 0, Integer.MAX_VALUE}, {0, 0, Integer.MIN_VALUE}};
        for (int[] one : wrong) {
            CHECK.due("a wrong CIRCLE", x.circle(0, one[0], one[1], one[2]), -1);
        }
        CHECK.due("a CIRCLE on no SHEET", x.circle(2, 0, 0, 1), -1);
        CHECK.due("the farthest CIRCLE", x.circle(0, 2000, -2000, 500), 0);
        CHECK.due("nothing was drawn", x.count(0, 0), 16);
    }
}
