/** PART 2 of the document's terms, sentence by sentence: LINE, DASHES, CIRCLE, THE PATH, WINDING and FILL. */
public final class DrawingEdgesTest {
    private static final Check CHECK = new Check();

    public static void main(String[] args) {
        dxNotBelowDy();
        oneDot();
        theOneNearerToTheStart();
        theLongestLines();
        sixteenBits();
        dashesWrapAround();
        allDashesAtFirst();
        circleOfNothing();
        aNotAboveB();
        theWidestCircle();
        upTo48Points();
        theFarthestPoints();
        sidesOfTheSheet();
        closedContours();
        contoursWithoutRoom();
        theFirstPointBegins();
        upperEndsAndLowerEnds();
        notAboveU();
        flatEdges();
        cornersCountOnce();
        theSumIsOdd();
        theSumIsNotZero();
        exactPlaces();
        centresOnSides();
        centresJustBesideASlope();
        centreButNoSample();
        samplesOnSides();
        CHECK.end();
    }

    private static void dxNotBelowDy() {
        CHECK.about("if dx is not below dy");
        int[][] ends = {{3, 3}, {3, -3}, {-3, 3}, {-3, -3}};
        for (int[] end : ends) {
            DotBench x = Check.benchWith(7, 7);
            CHECK.due("a diagonal", x.line(0, 3, 3, 3 + end[0], 3 + end[1]), 4);
            for (int i = 0; i <= 3; i++) {
                CHECK.due("its DOT " + i, x.dot(0, 3 + i * end[0] / 3, 3 + i * end[1] / 3), -1);
            }
        }
        DotBench x = Check.benchWith(5, 5);
        x.line(0, 0, 0, 4, 3);
        CHECK.drawing("dx above dy by one", x, 0, "#....", ".##..", "...#.", "....#");
        x.sheet(0, 5, 5);
        x.line(0, 0, 0, 3, 4);
        CHECK.drawing("dx below dy by one", x, 0, "#....", ".#...", ".#...", "..#..", "...#.");
    }

    private static void oneDot() {
        CHECK.about("for each x from x0 to x1");
        DotBench x = Check.benchWith(3, 3);
        CHECK.due("x0 = x1, y0 = y1", x.line(0, 1, 1, 1, 1), 1);
        CHECK.drawing("one DOT", x, 0, "...", ".#.", "...");
        CHECK.due("one DOT off the SHEET", x.line(0, 3, 1, 3, 1), 0);
        CHECK.due("two DOTS, to the left", x.line(0, 1, 0, 0, 0), 2);
        CHECK.due("two DOTS, upwards", x.line(0, 2, 2, 2, 1), 2);
        CHECK.drawing("all of them", x, 0, "##.", ".##", "..#");
    }

    private static void theOneNearerToTheStart() {
        CHECK.about("of two the one nearer to y0; else likewise by y");
        for (int right = -1; right <= 1; right += 2) {
            for (int down = -1; down <= 1; down += 2) {
                DotBench x = Check.benchWith(9, 9);
                x.line(0, 4, 4, 4 + 2 * right, 4 + down);
                CHECK.due("flat, nearer", x.dot(0, 4 + right, 4), -1);
                CHECK.due("flat, farther", x.dot(0, 4 + right, 4 + down), 0);
                x.sheet(0, 9, 9);
                x.line(0, 4, 4, 4 + right, 4 + 2 * down);
                CHECK.due("steep, nearer", x.dot(0, 4, 4 + down), -1);
                CHECK.due("steep, farther", x.dot(0, 4 + right, 4 + down), 0);
                x.sheet(0, 9, 9);
                // At the second step the LINE is 3/2 away from y0: of 1 and 2 it is 1.
                x.line(0, 4, 4, 4 + 4 * right, 4 + 3 * down);
                CHECK.due("3/2, nearer", x.dot(0, 4 + 2 * right, 4 + down), -1);
                CHECK.due("3/2, farther", x.dot(0, 4 + 2 * right, 4 + 2 * down), 0);
            }
        }
    }

    private static void theLongestLines() {
        CHECK.about("its ends -2000 to 2000 each");
        DotBench x = Check.benchWith(64, 64);
        CHECK.due("down to the right", x.line(0, -2000, -2000, 2000, 2000), 64);
        CHECK.due("its DOTS", x.dot(0, 63, 63) & x.dot(0, 0, 0), -1);
        CHECK.due("up to the left, as it was", x.line(0, 2000, 2000, -2000, -2000), 64);
        CHECK.due("the same DOTS", x.count(0, -1), 64);
        CHECK.due("up to the right", x.line(0, -2000, 2000, 2000, -2000), 1);
        x.sheet(0, 64, 64);
        // y is -1 + (x + 2000) / 4000: at 0 it is midway between -1 and 0, so -1; from 1 on 0.
        CHECK.due("almost flat", x.line(0, -2000, -1, 2000, 0), 63);
        CHECK.due("midway", x.dot(0, 0, 0), 0);
        CHECK.due("past midway", x.dot(0, 1, 0), -1);
        x.sheet(0, 64, 64);
        CHECK.due("almost flat, back", x.line(0, 2000, 0, -2000, -1), 64);
        CHECK.due("midway from 0", x.dot(0, 0, 0), -1);
        x.sheet(0, 64, 64);
        CHECK.due("almost upright", x.line(0, 0, 2000, -1, -2000), 64);
        CHECK.due("midway from 0", x.dot(0, 0, 0), -1);
    }

    private static void sixteenBits() {
        CHECK.about("DASHES: sixteen bits");
        for (int bit = 0; bit < 32; bit++) {
            DotBench x = Check.benchWith(16, 1);
            x.dashes(1 << bit);
            CHECK.due("bit " + bit, x.line(0, 0, 0, 15, 0), bit < 16 ? 1 : 0);
            CHECK.due("its DOT", x.look(0, 0), bit < 16 ? bit : -1);
        }
        DotBench x = Check.benchWith(16, 1);
        x.dashes(0);
        CHECK.due("no bit", x.line(0, 0, 0, 15, 0), 0);
        x.dashes(0x10000);
        CHECK.due("the seventeenth", x.line(0, 0, 0, 15, 0), 0);
        x.dashes(0xFFFF);
        CHECK.due("all sixteen", x.line(0, 0, 0, 15, 0), 16);
    }

    private static void dashesWrapAround() {
        CHECK.about("is drawn if bit k modulo 16 is 1");
        DotBench x = Check.benchWith(64, 1);
        x.dashes(0x8001);
        CHECK.due("bits 15 and 0", x.line(0, 0, 0, 63, 0), 8);
        CHECK.drawing("bits 15 and 0", x, 0, "#..............##..............##..............##..............#");
        x.sheet(0, 64, 1);
        x.dashes(1);
        CHECK.due("k = 2000 is bit 0", x.line(0, -2000, 0, 0, 0), 1);
        CHECK.due("at 0", x.dot(0, 0, 0), -1);
        x.sheet(0, 64, 1);
        CHECK.due("k = 2001 is bit 1", x.line(0, -2000, 0, 1, 0), 1);
        CHECK.due("at 1 is nothing", x.dot(0, 1, 0), 0);
        x.sheet(0, 1, 64);
        CHECK.due("from (0, 2000) upwards", x.line(0, 0, 2000, 0, 0), 4);
        CHECK.due("k = 2000", x.dot(0, 0, 0), -1);
        CHECK.due("k = 1984", x.dot(0, 0, 16), -1);
        CHECK.due("each LINE begins with bit 0", x.line(0, 0, 3, 0, 3), 1);
    }

    private static void allDashesAtFirst() {
        CHECK.about("(all 1 at first)");
        DotBench x = Check.benchWith(64, 1);
        CHECK.due("a LINE of 64 DOTS", x.line(0, 0, 0, 63, 0), 64);
    }

    private static void circleOfNothing() {
        CHECK.about("CIRCLE of radius r: for each a from 0 on");
        DotBench x = Check.benchWith(3, 3);
        CHECK.due("r = 0", x.circle(0, 1, 1, 0), 1);
        CHECK.drawing("r = 0", x, 0, "...", ".#.", "...");
        CHECK.due("r = 1", x.circle(0, 1, 1, 1), 4);
        CHECK.drawing("r = 1", x, 0, ".#.", "###", ".#.");
        CHECK.due("r = 1 at a corner", x.circle(0, 0, 0, 1), 2);
        CHECK.due("r = 0 beside it", x.circle(0, 3, 0, 0), 0);
    }

    private static void aNotAboveB() {
        CHECK.about("as long as a is not above b");
        DotBench x = Check.benchWith(9, 9);
        // a = 3 has b = 3, the root of 7 being 2.6: the last one, with four DOTS instead of eight.
        CHECK.due("r = 4", x.circle(0, 4, 4, 4), 24);
        CHECK.drawing("r = 4", x, 0, "...###...", ".##...##.", ".#.....#.", "#.......#", "#.......#", "#.......#",
                ".#.....#.", ".##...##.", "...###...");
        x.sheet(0, 9, 9);
        // a = 1 has b = 2, a = 2 has b = 0.
        CHECK.due("r = 2", x.circle(0, 4, 4, 2), 12);
        CHECK.drawing("r = 2", x, 0, ".........", ".........", "...###...", "..#...#..", "..#...#..", "..#...#..",
                "...###...", ".........");
    }

    private static void theWidestCircle() {
        CHECK.about("x and y -2000 to 2000, r 0 to 500");
        DotBench x = Check.benchWith(64, 64);
        // Its right side: 22 above its middle it is 499.52 away, 23 above 499.47, 32 above 498.97.
        CHECK.due("r = 500", x.circle(0, -437, 32, 500), 64);
        CHECK.due("at its height", x.dot(0, 63, 32), -1);
        CHECK.due("22 above", x.dot(0, 63, 10), -1);
        CHECK.due("23 above", x.dot(0, 62, 9), -1);
        CHECK.due("its width", x.look(0, 0), 62);
        CHECK.due("the farthest corner", x.circle(0, 2000, 2000, 500), 0);
        CHECK.due("and the other", x.circle(0, -2000, -2000, 500), 0);
    }

    private static void upTo48Points() {
        CHECK.about("THE PATH: up to 48 POINTS");
        DotBench x = Check.benchWith(16, 16);
        for (int i = 1; i <= 44; i++) {
            CHECK.due("POINT " + i, x.point(0, 0, i % 7 == 0), i);
        }
        Check.rectangle(x, 0, 0, 256, 256, false);
        CHECK.due("POINTS 45 to 48 count", x.fill(0, 1, false), 256);
        CHECK.due("POINT 49", x.point(0, 0, true), -1);
        CHECK.due("POINT 49 once more", x.point(128, 128, false), -1);
        CHECK.due("as before", x.fill(0, 1, false), 256);
        x.clear();
        CHECK.due("after clear", x.point(0, 0, false), 1);
    }

    private static void theFarthestPoints() {
        CHECK.about("in sixteenths of a DOT (-4096 to 4096)");
        DotBench x = Check.benchWith(64, 64);
        Check.rectangle(x, -4096, -4096, 4096, 4096, false);
        CHECK.due("over all of the SHEET", x.fill(0, 0, true), 4096);
        CHECK.due("the upper left", x.inside(-8192, -8192, 1), 1);
        CHECK.due("left of it", x.inside(-8193, 0, 1), 0);
        CHECK.due("above it", x.inside(0, -8193, 1), 0);
        CHECK.due("the last place", x.inside(8191, 8191, 1), 1);
        CHECK.due("right of it", x.inside(8192, 0, 1), 0);
        CHECK.due("below it", x.inside(0, 8192, 1), 0);
        CHECK.due("far right", x.inside(Integer.MAX_VALUE, 0, 1), 0);
        CHECK.due("far left", x.inside(Integer.MIN_VALUE, 0, 1), 0);
        CHECK.due("far below", x.inside(0, Integer.MAX_VALUE, 0), 0);
        CHECK.due("far above", x.inside(0, Integer.MIN_VALUE, 0), 0);
    }

    private static void sidesOfTheSheet() {
        CHECK.about("DOTS not on the SHEET are left as they are");
        int[][] sizes = {{64, 64}, {64, 1}, {1, 64}, {5, 3}, {63, 64}};
        for (int[] size : sizes) {
            for (int smooth = 0; smooth < 2; smooth++) {
                DotBench x = Check.benchWith(size[0], size[1]);
                int right = 16 * size[0];
                int below = 16 * size[1];
                Check.rectangle(x, 0, 0, right, below, false);
                CHECK.due("the SHEET's own sides", x.fill(0, 1, smooth == 1), size[0] * size[1]);
                CHECK.due("all of it", x.count(0, -1), size[0] * size[1]);
                x.clear();
                Check.rectangle(x, right, 0, right + 64, below, false);
                Check.rectangle(x, -64, 0, 0, below, true);
                Check.rectangle(x, 0, below, right, below + 64, false);
                Check.rectangle(x, 0, -64, right, 0, true);
                CHECK.due("what lies beside it", x.fill(0, 1, smooth == 1), 0);
            }
        }
    }

    private static void closedContours() {
        CHECK.about("each CONTOUR is closed from its last POINT to its first");
        DotBench x = Check.benchWith(8, 4);
        x.point(0, 0, true);
        x.point(64, 0, false);
        x.point(64, 64, false);
        x.point(80, 0, true);
        x.point(128, 0, false);
        x.point(128, 48, false);
        // A side through centres: they are on the side that is not above u, so INSIDE.
        CHECK.due("two triangles", x.fill(0, 0, false), 16);
        CHECK.drawing("two triangles", x, 0, "####.###", ".###..##", "..##...#", "...#....");
        x.sheet(0, 8, 4);
        x.point(80, 48, false);
        CHECK.due("one more POINT", x.fill(0, 0, false), 19);
        CHECK.drawing("the second CONTOUR alone has it", x, 0, "####.###", ".###.###", "..##.###", "...#....");
    }

    private static void contoursWithoutRoom() {
        CHECK.about("Its EDGES go from POINT to POINT");
        DotBench x = Check.benchWith(4, 4);
        CHECK.due("no POINT", x.fill(0, 1, true) + x.fill(0, 0, false), 0);
        x.point(8, 8, true);
        CHECK.due("one POINT", x.fill(0, 1, true) + x.fill(0, 0, false), 0);
        CHECK.due("at its place", x.inside(16, 16, 1), 0);
        x.point(56, 56, false);
        CHECK.due("two POINTS", x.fill(0, 1, true) + x.fill(0, 0, false), 0);
        CHECK.due("on the way between", x.inside(48, 48, 0), 0);
        x.point(24, 24, false);
        CHECK.due("three in a row", x.fill(0, 1, true) + x.fill(0, 0, false), 0);
        x.clear();
        for (int i = 0; i < 48; i++) {
            x.point(64 * (i % 2), 64 * (i / 2 % 2), true);
        }
        CHECK.due("48 CONTOURS of one POINT", x.fill(0, 1, true) + x.fill(0, 0, false), 0);
    }

    private static void theFirstPointBegins() {
        CHECK.about("(so is THE PATH's first)");
        for (int begins = 0; begins < 2; begins++) {
            DotBench x = Check.benchWith(4, 4);
            Check.rectangle(x, 0, 0, 64, 64, false);
            x.clear();
            x.point(0, 32, begins == 1);
            x.point(64, 32, false);
            x.point(64, 64, false);
            x.point(0, 64, false);
            CHECK.due("the lower half", x.fill(0, 1, false), 8);
            CHECK.drawing("the lower half", x, 0, "....", "....", "####", "####");
        }
    }

    private static void upperEndsAndLowerEnds() {
        CHECK.about("if ya <= v < yb: 1, if yb <= v < ya: -1");
        for (int turned = 0; turned < 2; turned++) {
            DotBench x = new DotBench();
            Check.rectangle(x, 10, 10, 20, 20, turned == 1);
            for (int rule = 0; rule < 2; rule++) {
                CHECK.due("just above", x.inside(30, 19, rule), 0);
                CHECK.due("on the upper side", x.inside(30, 20, rule), 1);
                CHECK.due("just above the lower side", x.inside(30, 39, rule), 1);
                CHECK.due("on the lower side", x.inside(30, 40, rule), 0);
            }
        }
    }

    private static void notAboveU() {
        CHECK.about("each if the EDGE's x at v is not above u");
        for (int turned = 0; turned < 2; turned++) {
            DotBench x = new DotBench();
            Check.rectangle(x, 10, 10, 20, 20, turned == 1);
            for (int rule = 0; rule < 2; rule++) {
                CHECK.due("left of it", x.inside(19, 30, rule), 0);
                CHECK.due("on the left side", x.inside(20, 30, rule), 1);
                CHECK.due("just left of the right side", x.inside(39, 30, rule), 1);
                CHECK.due("on the right side", x.inside(40, 30, rule), 0);
                CHECK.due("the upper left", x.inside(20, 20, rule), 1);
                CHECK.due("the upper right", x.inside(40, 20, rule), 0);
                CHECK.due("the lower left", x.inside(20, 40, rule), 0);
                CHECK.due("the lower right", x.inside(40, 40, rule), 0);
            }
        }
    }

    private static void flatEdges() {
        CHECK.about("else 0");
        DotBench x = Check.benchWith(4, 4);
        // Flat EDGES at the height of the centres of row 1, forth and back.
        x.point(0, 24, true);
        x.point(64, 24, false);
        x.point(16, 24, false);
        CHECK.due("flat EDGES alone", x.fill(0, 0, false) + x.fill(0, 1, true), 0);
        x.point(16, 64, false);
        x.point(0, 64, false);
        CHECK.due("a column below them", x.fill(0, 1, false), 3);
        CHECK.drawing("the column", x, 0, "....", "#...", "#...", "#...");
    }

    private static void cornersCountOnce() {
        CHECK.about("over all EDGES: the sum");
        DotBench x = new DotBench();
        // A square on its corner: places at the height of its left and right corners meet two EDGES at one POINT.
        x.point(20, 10, true);
        x.point(30, 20, false);
        x.point(20, 30, false);
        x.point(10, 20, false);
        for (int rule = 0; rule < 2; rule++) {
            CHECK.due("left of the left corner", x.inside(19, 40, rule), 0);
            CHECK.due("the left corner", x.inside(20, 40, rule), 1);
            CHECK.due("the middle", x.inside(40, 40, rule), 1);
            CHECK.due("left of the right corner", x.inside(59, 40, rule), 1);
            CHECK.due("the right corner", x.inside(60, 40, rule), 0);
            CHECK.due("right of it", x.inside(61, 40, rule), 0);
            CHECK.due("the upper corner", x.inside(40, 20, rule), 0);
            CHECK.due("right of the upper corner", x.inside(41, 20, rule), 0);
            CHECK.due("the lower corner", x.inside(40, 60, rule), 0);
            CHECK.due("just above the lower corner", x.inside(40, 59, rule), 1);
        }
    }

    /** The same square a number of times, of one turn or the other. */
    private static DotBench wound(int times, boolean turned) {
        DotBench x = Check.benchWith(2, 2);
        for (int i = 0; i < times; i++) {
            Check.rectangle(x, 0, 0, 32, 32, turned);
        }
        return x;
    }

    private static void theSumIsOdd() {
        CHECK.about("rule 0: it is odd");
        for (int times = 0; times <= 12; times++) {
            for (int turned = 0; turned < 2; turned++) {
                DotBench x = wound(times, turned == 1);
                CHECK.due("inside, " + times + " times", x.inside(16, 16, 0), times % 2);
                CHECK.due("fill, " + times + " times", x.fill(0, 0, false), times % 2 * 4);
                CHECK.due("smoothed, " + times + " times", x.fill(0, 0, true), times % 2 * 4);
            }
        }
    }

    private static void theSumIsNotZero() {
        CHECK.about("rule 1: it is not 0");
        for (int times = 0; times <= 12; times++) {
            for (int turned = 0; turned < 2; turned++) {
                DotBench x = wound(times, turned == 1);
                CHECK.due("inside, " + times + " times", x.inside(16, 16, 1), times == 0 ? 0 : 1);
                CHECK.due("fill, " + times + " times", x.fill(0, 1, false), times == 0 ? 0 : 4);
                CHECK.due("smoothed, " + times + " times", x.fill(0, 1, true), times == 0 ? 0 : 4);
            }
        }
        DotBench x = wound(3, false);
        for (int i = 0; i < 3; i++) {
            Check.rectangle(x, 0, 0, 32, 32, true);
        }
        CHECK.due("3 and -3", x.fill(0, 1, false) + x.fill(0, 1, true) + x.inside(16, 16, 1), 0);
    }

    private static void exactPlaces() {
        CHECK.about("A place (u, v) (in thirty-seconds, to be exact)");
        DotBench x = new DotBench();
        // The left side goes from (0, 0) by 1 for each 3: whole at every third v alone, on either side of 0.
        x.point(-1000, -3000, true);
        x.point(1000, 3000, false);
        x.point(4096, 3000, false);
        x.point(4096, -3000, false);
        for (int v = -7; v <= 7; v++) {
            int first = -Math.floorDiv(-v, 3);
            CHECK.due("the first u at " + v, x.inside(first, v, 1), 1);
            CHECK.due("the one before at " + v, x.inside(first - 1, v, 1), 0);
        }
        x.clear();
        // The same side, leaning the other way and gone through upwards.
        x.point(-1000, 3000, true);
        x.point(1000, -3000, false);
        x.point(4096, -3000, false);
        x.point(4096, 3000, false);
        for (int v = -7; v <= 7; v++) {
            int first = -Math.floorDiv(v, 3);
            CHECK.due("leaning, the first u at " + v, x.inside(first, v, 1), 1);
            CHECK.due("leaning, the one before at " + v, x.inside(first - 1, v, 1), 0);
        }
    }

    private static void centresOnSides() {
        CHECK.about("FILL: all DOTS whose centre (x + 1/2, y + 1/2) is INSIDE");
        DotBench x = Check.benchWith(4, 4);
        Check.rectangle(x, 8, 8, 40, 40, false);
        CHECK.due("sides through centres", x.fill(0, 1, false), 4);
        CHECK.drawing("left and upper ones are INSIDE", x, 0, "##..", "##..", "....", "....");
        x.clear();
        x.sheet(0, 4, 4);
        Check.rectangle(x, 9, 9, 41, 41, false);
        CHECK.due("a sixteenth on", x.fill(0, 1, false), 4);
        CHECK.drawing("a sixteenth on", x, 0, "....", ".##.", ".##.", "....");
        x.clear();
        Check.rectangle(x, 9, 9, 23, 23, false);
        CHECK.due("between centres", x.fill(0, 1, false), 0);
    }

    /** A side from (8, -1000) to (8 + lean, 4000), and all that lies between it and a far x. */
    private static DotBench besideASlope(int lean, int far) {
        DotBench x = Check.benchWith(1, 1);
        x.point(8, -1000, true);
        x.point(8 + lean, 4000, false);
        x.point(far, 4000, false);
        x.point(far, -1000, false);
        return x;
    }

    private static void centresJustBesideASlope() {
        CHECK.about("each if the EDGE's x at v is not above u");
        // At the centre's height, 8 sixteenths, the side has gone 0.2016 of its way: 16.4 or 15.6 thirty-seconds.
        DotBench x = besideASlope(1, 4096);
        CHECK.due("a left side just right of the centre", x.fill(0, 1, false), 0);
        CHECK.due("at 16", x.inside(16, 16, 1), 0);
        CHECK.due("at 17", x.inside(17, 16, 1), 1);
        x = besideASlope(-1, 4096);
        CHECK.due("a left side just left of the centre", x.fill(0, 1, false), 1);
        CHECK.due("at 15", x.inside(15, 16, 1), 0);
        CHECK.due("at 16", x.inside(16, 16, 1), 1);
        x = besideASlope(1, -4096);
        CHECK.due("a right side just right of the centre", x.fill(0, 1, false), 1);
        CHECK.due("at 16", x.inside(16, 16, 1), 1);
        CHECK.due("at 17", x.inside(17, 16, 1), 0);
        x = besideASlope(-1, -4096);
        CHECK.due("a right side just left of the centre", x.fill(0, 1, false), 0);
        CHECK.due("at 15", x.inside(15, 16, 1), 1);
        CHECK.due("at 16", x.inside(16, 16, 1), 0);
    }

    private static void centreButNoSample() {
        CHECK.about("smoothed: TOUCHED if c is not 0");
        DotBench x = Check.benchWith(3, 3);
        Check.rectangle(x, 23, 23, 25, 25, false);
        CHECK.due("the centre, not smoothed", x.fill(0, 1, false), 1);
        x.sheet(0, 3, 3);
        CHECK.due("no sample, smoothed", x.fill(0, 1, true), 0);
        CHECK.due("nothing drawn", x.count(0, 0), 9);
        x.clear();
        Check.rectangle(x, 16, 16, 23, 23, false);
        CHECK.due("no centre, not smoothed", x.fill(0, 1, false), 0);
        CHECK.due("four samples, smoothed", x.fill(0, 1, true), 1);
        CHECK.due("a quarter", x.dot(0, 1, 1), 0x40404040);
    }

    private static void samplesOnSides() {
        CHECK.about("the 16 places (x + (2 i + 1) / 8, y + (2 j + 1) / 8), i and j 0 to 3");
        // The places are 2, 6, 10 and 14 sixteenths into the DOT.
        int[] place = {2, 6, 10, 14};
        for (int i = 0; i < 4; i++) {
            for (int j = 0; j < 4; j++) {
                DotBench x = Check.benchWith(1, 1);
                Check.rectangle(x, place[i], place[j], place[i] + 1, place[j] + 1, false);
                CHECK.due("a sample at its upper left", x.fill(0, 0, true), 1);
                CHECK.due("that one alone", x.dot(0, 0, 0), 0x10101010);
                x.clear();
                Check.rectangle(x, place[i] - 2, place[j] - 2, place[i], place[j], false);
                CHECK.due("a sample at its lower right", x.fill(0, 0, true), 0);
                x.clear();
                Check.rectangle(x, place[i] + 1, place[j] + 1, place[i] + 4, place[j] + 4, false);
                CHECK.due("between samples", x.fill(0, 0, true), 0);
            }
        }
    }
}
