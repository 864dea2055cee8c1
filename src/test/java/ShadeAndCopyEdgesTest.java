/** PART 2 of the document's terms, sentence by sentence: SHADE, FLOOD, COPY and STRETCH. */
public final class ShadeAndCopyEdgesTest {
    private static final Check CHECK = new Check();
    private static final int RED = 0xFFFF0000;

    public static void main(String[] args) {
        trianglesWithoutArea();
        theSmallestTriangles();
        theGreatestTriangle();
        centresOnSides();
        cutDownwards();
        theWeightsOfTheCorners();
        theShadeHasItsOwnInk();
        floodOfOneDot();
        floodOfAll();
        floodByTheSameValueAlone();
        floodBySidesOrCorners();
        floodToTheNextDotsAlone();
        floodInTheClip();
        floodLaysOnceThoughItMeetsItsInk();
        copyOfNothing();
        copyOfTheGreatest();
        copyOfThoseThatAreThere();
        copyFromTheFarthestPlaces();
        copyToAnotherOrTheSame();
        copyThroughASheetBetween();
        stretchFromOneAndToOne();
        stretchCutDownwards();
        stretchIfThereIsOne();
        stretchThroughASheetBetween();
        CHECK.end();
    }

    private static void triangle(DotBench x, int... places) {
        for (int i = 0; i < 3; i++) {
            x.corner(i, places[2 * i], places[2 * i + 1], 0xFF000000 | 0x50 * (i + 1));
        }
    }

    private static void trianglesWithoutArea() {
        CHECK.about("DOTS TOUCHED (0 if the area is 0)");
        int[][] triangles = {{0, 0, 0, 0, 0, 0}, {5, 5, 5, 5, 5, 5}, {0, 0, 8, 8, 4, 4}, {0, 0, 8, 8, 8, 8},
            {0, 0, 8, 8, 0, 0}, {3, 0, 3, 4, 3, 8}, {0, 3, 4, 3, 8, 3}, {-200, -200, 200, 200, 0, 0},
            {-200, -200, 200, 200, 1, 1}, {0, 0, 3, 1, 6, 2}, {6, 2, 0, 0, 3, 1}, {-200, 200, 200, -200, 0, 0}};
        for (int[] places : triangles) {
            DotBench x = Check.benchWith(8, 8);
            triangle(x, places);
            CHECK.due("no area", x.shade(0), 0);
            CHECK.due("nothing drawn", x.count(0, 0), 64);
        }
        DotBench x = Check.benchWith(8, 8);
        triangle(x, 0, 0, 200, 199, 199, 198);
        CHECK.due("a double area of 1, no centre in it", x.shade(0), 0);
    }

    private static void theSmallestTriangles() {
        CHECK.about("DOTS whose centre is INSIDE it (rule 1)");
        DotBench x = Check.benchWith(2, 2);
        // The long side goes through the centre: right of it in the first, left of it in the second.
        triangle(x, 0, 0, 1, 0, 0, 1);
        CHECK.due("the upper left half of a DOT", x.shade(0), 0);
        triangle(x, 1, 0, 1, 1, 0, 1);
        CHECK.due("the lower right half of a DOT", x.shade(0), 1);
        triangle(x, 0, 0, 1, 0, 1, 1);
        CHECK.due("the upper right half of a DOT", x.shade(0), 1);
        triangle(x, 0, 0, 1, 1, 0, 1);
        CHECK.due("the lower left half of a DOT", x.shade(0), 0);
        CHECK.due("one DOT in all", x.count(0, 0), 3);
    }

    private static void theGreatestTriangle() {
        CHECK.about("its place (-200 to 200)");
        DotBench x = Check.benchWith(64, 64);
        x.corner(0, -200, -200, 0xFFFFFFFF);
        x.corner(1, 200, -200, 0xFF000000);
        x.corner(2, -200, 200, 0xFF000000);
        // It ends at x + y = 0, which centres of the SHEET are beyond.
        CHECK.due("beyond it", x.shade(0), 0);
        x.corner(0, 200, 200, 0xFFFFFFFF);
        CHECK.due("within it", x.shade(0), 4096);
        // At (63, 63) the part of white is (63.5 + 63.5) / 400 of 255: 80.96.
        CHECK.due("its last DOT", x.dot(0, 63, 63), 0xFF505050);
        CHECK.due("its first DOT", x.dot(0, 0, 0), 0xFF000000);
    }

    private static void centresOnSides() {
        CHECK.about("a triangle of three places in whole DOTS (corners of the grid)");
        for (int turned = 0; turned < 2; turned++) {
            DotBench x = Check.benchWith(5, 5);
            int[] one = {0, 0, 4, 0, 4, 4};
            int[] other = {4, 4, 4, 0, 0, 0};
            triangle(x, turned == 1 ? other : one);
            CHECK.due("its left side through centres", x.shade(0), 10);
            CHECK.drawing("they are INSIDE", x, 0, "####.", ".###.", "..##.", "...#.", ".....");
            x.sheet(0, 5, 5);
            int[] left = {0, 0, 4, 4, 0, 4};
            int[] back = {0, 4, 4, 4, 0, 0};
            triangle(x, turned == 1 ? back : left);
            CHECK.due("its right side through centres", x.shade(0), 6);
            CHECK.drawing("they are not", x, 0, ".....", "#....", "##...", "###..", ".....");
        }
    }

    private static void cutDownwards() {
        CHECK.about("(wa A + wb B + wc C) / w cut downwards");
        DotBench x = Check.benchWith(4, 4);
        x.corner(0, 0, 0, 0xFF000000);
        x.corner(1, 4, 0, 0xFF030000);
        x.corner(2, 0, 4, 0xFF000003);
        x.shade(0);
        // RED is 3 (x + 1/2) / 4, BLUE 3 (y + 1/2) / 4.
        CHECK.due("0.375 and 0.375", x.dot(0, 0, 0), 0xFF000000);
        CHECK.due("1.125 and 0.375", x.dot(0, 1, 0), 0xFF010000);
        CHECK.due("1.875 and 0.375", x.dot(0, 2, 0), 0xFF010000);
        CHECK.due("0.375 and 1.875", x.dot(0, 0, 2), 0xFF000001);
        x.sheet(0, 4, 4);
        x.corner(0, 0, 0, 0xFFFFFFFF);
        x.corner(1, 4, 0, 0xFFFFFFFF);
        x.corner(2, 0, 4, 0xFFFFFFFF);
        x.shade(0);
        CHECK.due("whole ones stay", x.count(0, -1), 6);
    }

    private static void theWeightsOfTheCorners() {
        CHECK.about("wa the double area of the triangle of the centre and the corners b and c, and so on");
        for (int first = 0; first < 3; first++) {
            DotBench x = Check.benchWith(10, 10);
            x.corner(first, 1, 0, 0xFFFF0000);
            x.corner((first + 1) % 3, 10, 3, 0xFF00FF00);
            x.corner((first + 2) % 3, 2, 9, 0xFF0000FF);
            x.shade(0);
            // w is 4 * 78 = 312. At (4, 3): b and c are (11, -1) and (-5, 11) halves away, c and a (-7, -7).
            CHECK.due("116, 112 and 84 of 312", x.dot(0, 4, 3), 0xFF000000 | 94 << 16 | 91 << 8 | 68);
            // At (2, 1): b is (15, 3) halves away, c (-1, 15), a (-3, -3).
            CHECK.due("228, 48 and 36 of 312", x.dot(0, 2, 1), 0xFF000000 | 186 << 16 | 39 << 8 | 29);
        }
    }

    private static void theShadeHasItsOwnInk() {
        CHECK.about("SHADE: with three colours");
        DotBench x = Check.benchWith(2, 2);
        x.ink(0xFF00FF00);
        x.corner(0, 0, 0, 0x80FF0000);
        x.corner(1, 8, 0, 0x80FF0000);
        x.corner(2, 0, 8, 0x80FF0000);
        CHECK.due("shade", x.shade(0), 4);
        CHECK.due("by the INK of its own colour", x.count(0, 0x80800000), 4);
        x.line(0, 0, 0, 0, 0);
        CHECK.due("THE INK stays", x.dot(0, 0, 0), 0xFF00FF00);
    }

    private static void floodOfOneDot() {
        CHECK.about("FLOOD from (x, y): the DOTS that have the same value as that one");
        DotBench x = Check.benchWith(1, 1);
        CHECK.due("of the smallest SHEET", x.flood(0, 0, 0, true), 1);
        CHECK.due("region", x.region(0, 0, 0, true), 1);
        x.sheet(0, 3, 3);
        Check.putDot(x, 0, 1, 1, 0xFF0000FF);
        CHECK.due("a DOT by itself", x.flood(0, 1, 1, true), 1);
        CHECK.due("those around it, by sides", x.flood(0, 0, 0, false), 8);
    }

    private static void floodOfAll() {
        CHECK.about("the DOTS of the SHEET");
        int[][] sizes = {{64, 64}, {64, 1}, {1, 64}, {63, 64}};
        for (int[] size : sizes) {
            DotBench x = Check.benchWith(size[0], size[1]);
            CHECK.due("region", x.region(0, 0, 0, false), size[0] * size[1]);
            CHECK.due("flood", x.flood(0, size[0] - 1, size[1] - 1, false), size[0] * size[1]);
            CHECK.due("all of one value", x.count(0, -1), size[0] * size[1]);
        }
    }

    private static void floodByTheSameValueAlone() {
        CHECK.about("that have the same value as that one");
        DotBench x = Check.benchWith(5, 1);
        int[] colours = {0xFF000001, 0xFF000001, 0xFF000002, 0xFF000001, 0xFE000001};
        for (int i = 0; i < 5; i++) {
            Check.putDot(x, 0, i, 0, colours[i]);
        }
        CHECK.due("up to a value that differs by one", x.region(0, 0, 0, true), 2);
        CHECK.due("a single one", x.region(0, 2, 0, true), 1);
        CHECK.due("the same value beyond it", x.region(0, 3, 0, true), 1);
        CHECK.due("another ALPHA", x.region(0, 4, 0, true), 1);
    }

    private static void floodBySidesOrCorners() {
        CHECK.about("hang together with it by sides (or by sides and corners)");
        DotBench x = Check.benchWith(4, 4);
        for (int y = 0; y < 4; y++) {
            x.dashes(y % 2 == 0 ? 0x5555 : 0xAAAA);
            x.line(0, 0, y, 3, y);
        }
        for (int i = 0; i < 16; i++) {
            CHECK.due("a chess board, by sides", x.region(0, i % 4, i / 4, false), 1);
            CHECK.due("a chess board, by corners", x.region(0, i % 4, i / 4, true), 8);
        }
        x.ink(0xFF0000FF);
        CHECK.due("flood by sides", x.flood(0, 3, 3, false), 1);
        CHECK.due("flood by corners", x.flood(0, 1, 0, true), 8);
        // Rows do not go on at the other side of the SHEET.
        DotBench wide = Check.benchWith(64, 3);
        wide.line(0, 1, 0, 1, 2);
        CHECK.due("the left column", wide.region(0, 0, 1, true), 3);
        CHECK.due("the right part", wide.region(0, 63, 1, true), 186);
    }

    private static void floodToTheNextDotsAlone() {
        CHECK.about("hang together with it by sides (or by sides and corners)");
        for (int i = 0; i < 49; i++) {
            int right = Math.abs(i % 7 - 3);
            int down = Math.abs(i / 7 - 3);
            DotBench x = Check.benchWith(7, 7);
            x.line(0, 3, 3, 3, 3);
            x.line(0, i % 7, i / 7, i % 7, i / 7);
            int both = right + down == 0 ? 1 : 2;
            CHECK.due("3 3 and DOT " + i + " by sides", x.region(0, 3, 3, false), right + down <= 1 ? both : 1);
            CHECK.due("3 3 and DOT " + i + " by corners", x.region(0, 3, 3, true),
                    right <= 1 && down <= 1 ? both : 1);
            x.ink(RED);
            CHECK.due("flood to DOT " + i, x.flood(0, 3, 3, true), right <= 1 && down <= 1 ? both : 1);
        }
    }

    private static void floodInTheClip() {
        CHECK.about("the DOTS of the SHEET, in THE CLIP");
        DotBench x = Check.benchWith(5, 5);
        x.clip(1, 1, 3, 3);
        CHECK.due("from a DOT beside THE CLIP", x.flood(0, 0, 2, true), 0);
        CHECK.due("from a DOT right of THE CLIP", x.flood(0, 4, 3, true), 0);
        CHECK.due("from a DOT above THE CLIP", x.flood(0, 2, 0, false), 0);
        CHECK.due("from a DOT below THE CLIP", x.flood(0, 3, 4, false), 0);
        CHECK.due("nothing drawn", x.count(0, 0), 25);
        CHECK.due("from its corner", x.flood(0, 1, 3, false), 9);
        CHECK.due("what is drawn", x.count(0, -1), 9);
    }

    private static void floodLaysOnceThoughItMeetsItsInk() {
        CHECK.about("each becomes what LAYING the INK gives");
        DotBench x = Check.benchWith(4, 4);
        x.flood(0, 0, 0, false);
        CHECK.due("the INK's own value", x.flood(0, 0, 0, false), 16);
        CHECK.due("stays", x.count(0, -1), 16);
        x.way(0, 255);
        CHECK.due("CLEAR", x.flood(0, 2, 2, true), 16);
        CHECK.due("all 0", x.count(0, 0), 16);
        x.way(12, 255);
        x.ink(0x01000000);
        x.flood(0, 0, 0, true);
        CHECK.due("PLUS once", x.look(0, 6), 16);
    }

    /** SHEET 0 of w times h DOTS, each of a value of its own: ALPHA full, RED its x, GREEN its y. */
    private static DotBench numbered(int w, int h) {
        DotBench x = Check.benchWith(w, h);
        for (int i = 0; i < w * h; i++) {
            Check.putDot(x, 0, i % w, i / w, value(i % w, i / w));
        }
        return x;
    }

    private static int value(int x, int y) {
        return 0xFF000000 | x << 16 | y << 8;
    }

    private static void copyOfNothing() {
        CHECK.about("NONE: w or h below 0 or above 64");
        DotBench x = numbered(3, 3);
        x.sheet(1, 3, 3);
        CHECK.due("w = 0", x.copy(0, 0, 0, 0, 3, 1, 0, 0), 0);
        CHECK.due("h = 0", x.copy(0, 0, 0, 3, 0, 1, 0, 0), 0);
        CHECK.due("both", x.copy(0, 0, 0, 0, 0, 1, 0, 0), 0);
        CHECK.due("onto itself", x.copy(0, 0, 0, 0, 0, 0, 1, 1), 0);
        CHECK.due("nothing LAID", x.count(1, 0), 9);
        CHECK.due("one DOT", x.copy(0, 0, 0, 1, 1, 1, 2, 2), 1);
        CHECK.due("is LAID", x.dot(1, 2, 2), value(0, 0));
        CHECK.due("w = -1", x.copy(0, 0, 0, -1, 0, 1, 0, 0), -1);
        CHECK.due("h = 65", x.copy(0, 0, 0, 0, 65, 1, 0, 0), -1);
    }

    private static void copyOfTheGreatest() {
        CHECK.about("COPY: of a SHEET's w times h DOTS from (x, y) on");
        DotBench x = Check.benchWith(64, 64);
        x.sheet(3, 64, 64);
        x.circle(0, 31, 31, 31);
        CHECK.due("64 times 64", x.copy(0, 0, 0, 64, 64, 3, 0, 0), 4096);
        CHECK.due("the same", x.differ(0, 3), 0);
        CHECK.due("one on", x.copy(0, 0, 0, 64, 64, 3, 1, 1), 63 * 63);
        CHECK.due("63 on", x.copy(0, 0, 0, 64, 64, 3, 63, 63), 1);
        CHECK.due("64 on", x.copy(0, 0, 0, 64, 64, 3, 64, 0), 0);
        CHECK.due("63 back", x.copy(0, 0, 0, 64, 64, 3, -63, -63), 1);
        CHECK.due("64 back", x.copy(0, 0, 0, 64, 64, 3, 0, -64), 0);
    }

    private static void copyOfThoseThatAreThere() {
        CHECK.about("those that are there");
        DotBench x = numbered(3, 2);
        x.sheet(1, 6, 6);
        x.flood(1, 0, 0, false);
        x.way(1, 255);
        CHECK.due("from left above it", x.copy(0, -1, -1, 5, 4, 1, 0, 0), 6);
        for (int j = 0; j < 6; j++) {
            for (int i = 0; i < 6; i++) {
                boolean there = i >= 1 && i <= 3 && j >= 1 && j <= 2;
                CHECK.due("at " + i + " " + j, x.dot(1, i, j), there ? value(i - 1, j - 1) : value(2, 1));
            }
        }
        CHECK.due("right of it", x.copy(0, 3, 0, 64, 64, 1, 0, 0), 0);
        CHECK.due("below it", x.copy(0, 0, 2, 64, 64, 1, 0, 0), 0);
        CHECK.due("just left of it", x.copy(0, -3, 0, 3, 2, 1, 0, 0), 0);
        CHECK.due("just above it", x.copy(0, 0, -2, 3, 2, 1, 0, 0), 0);
    }

    private static void copyFromTheFarthestPlaces() {
        CHECK.about("a place not within -200 to 200");
        DotBench x = numbered(2, 2);
        x.sheet(1, 2, 2);
        int[] places = {-200, 200};
        for (int from : places) {
            for (int to : places) {
                CHECK.due("from x", x.copy(0, from, 0, 64, 64, 1, 0, to), 0);
                CHECK.due("from y", x.copy(0, 0, from, 64, 64, 1, to, 0), 0);
                CHECK.due("stretch from x", x.stretch(0, from, 0, 64, 64, 1, 0, to, 64, 64), 0);
                CHECK.due("stretch from y", x.stretch(0, 0, from, 64, 64, 1, to, 0, 64, 64), 0);
            }
        }
        CHECK.due("nothing LAID", x.count(1, 0), 4);
    }

    private static void copyToAnotherOrTheSame() {
        CHECK.about("of another SHEET, or the same one");
        for (int k = 0; k < 4; k++) {
            for (int q = 0; q < 4; q++) {
                DotBench x = new DotBench();
                x.sheet(k, 4, 4);
                CHECK.due("SHEET " + q + " is there", x.copy(k, 0, 0, 4, 4, q, 0, 0), k == q ? 16 : -1);
                x.sheet(q, 4, 4);
                Check.putDot(x, k, 0, 0, 0xFF0000FF);
                CHECK.due("copy", x.copy(k, 0, 0, 1, 1, q, 3, 3), 1);
                CHECK.due("from " + k + " to " + q, x.dot(q, 3, 3), 0xFF0000FF);
                CHECK.due("stretch", x.stretch(k, 0, 0, 1, 1, q, 1, 1, 2, 1), 2);
                CHECK.due("stretched from " + k + " to " + q, x.dot(q, 2, 1), 0xFF0000FF);
                CHECK.due("the source stays", x.dot(k, 0, 0), 0xFF0000FF);
            }
        }
    }

    private static void copyThroughASheetBetween() {
        CHECK.about("(as if through a SHEET between)");
        for (int right = -2; right <= 2; right++) {
            for (int down = -2; down <= 2; down++) {
                DotBench x = numbered(4, 4);
                int due = (4 - Math.abs(right)) * (4 - Math.abs(down));
                CHECK.due("moved by " + right + " " + down, x.copy(0, 0, 0, 4, 4, 0, right, down), due);
                for (int i = 0; i < 16; i++) {
                    int fromX = i % 4 - right;
                    int fromY = i / 4 - down;
                    boolean moved = fromX >= 0 && fromX < 4 && fromY >= 0 && fromY < 4;
                    CHECK.due("moved by " + right + " " + down + ", DOT " + i, x.dot(0, i % 4, i / 4),
                            moved ? value(fromX, fromY) : value(i % 4, i / 4));
                }
            }
        }
        DotBench x = Check.benchWith(3, 1);
        x.ink(0x40000000);
        x.flood(0, 0, 0, false);
        x.way(12, 255);
        CHECK.due("PLUS onto itself", x.copy(0, 0, 0, 3, 1, 0, 1, 0), 2);
        CHECK.due("the second is of two", x.dot(0, 1, 0), 0x80000000);
        CHECK.due("the third is of two, not of three", x.dot(0, 2, 0), 0x80000000);
        // A SHEET that was copied through before has nothing to do with the next.
        x.sheet(0, 2, 1);
        x.way(1, 255);
        CHECK.due("a smaller one", x.copy(0, 0, 0, 64, 64, 0, 0, 0), 2);
        CHECK.due("is as it was", x.count(0, 0), 2);
    }

    private static void stretchFromOneAndToOne() {
        CHECK.about("STRETCH likewise (w, h, W, H 1 to 64)");
        DotBench x = numbered(4, 4);
        x.sheet(1, 64, 64);
        CHECK.due("from one to 64", x.stretch(0, 2, 3, 1, 1, 1, 0, 0, 64, 64), 4096);
        CHECK.due("all the same", x.count(1, value(2, 3)), 4096);
        CHECK.due("from 64 to one", x.stretch(0, 1, 2, 64, 64, 1, 63, 0, 1, 1), 1);
        CHECK.due("it is the first", x.dot(1, 63, 0), value(1, 2));
        CHECK.due("of the same size", x.stretch(0, 0, 0, 4, 4, 1, 8, 8, 4, 4), 16);
        CHECK.due("a COPY: first", x.dot(1, 8, 8), value(0, 0));
        CHECK.due("a COPY: last", x.dot(1, 11, 11), value(3, 3));
        CHECK.due("64 to 64", x.stretch(1, 0, 0, 64, 64, 1, 0, 0, 64, 64), 4096);
        CHECK.due("stays", x.dot(1, 11, 11), value(3, 3));
    }

    private static void stretchCutDownwards() {
        CHECK.about("that of (x + i w / W, y + j h / H) (cut downwards)");
        DotBench x = numbered(7, 7);
        x.sheet(1, 8, 8);
        int[][] sizes = {{2, 3}, {3, 2}, {5, 7}, {7, 5}, {7, 8}, {1, 8}, {7, 1}, {7, 7}};
        int[][] from = {{0, 0, 1}, {0, 1}, {0, 0, 1, 2, 2, 3, 4}, {0, 1, 2, 4, 5}, {0, 0, 1, 2, 3, 4, 5, 6},
            {0, 0, 0, 0, 0, 0, 0, 0}, {0}, {0, 1, 2, 3, 4, 5, 6}};
        for (int s = 0; s < sizes.length; s++) {
            int w = sizes[s][0];
            int wide = sizes[s][1];
            CHECK.due(w + " to " + wide + " along x", x.stretch(0, 0, 3, w, 1, 1, 0, 0, wide, 1), wide);
            CHECK.due(w + " to " + wide + " along y", x.stretch(0, 3, 0, 1, w, 1, 7, 0, 1, wide), wide);
            for (int i = 0; i < wide; i++) {
                if (i != 7) {
                    CHECK.due(w + " to " + wide + ": x of " + i, x.dot(1, i, 0), value(from[s][i], 3));
                }
                CHECK.due(w + " to " + wide + ": y of " + i, x.dot(1, 7, i), value(3, from[s][i]));
            }
        }
    }

    private static void stretchIfThereIsOne() {
        CHECK.about("if there is one, likewise");
        DotBench x = numbered(2, 2);
        x.sheet(1, 6, 6);
        // From -1 on, 4 DOTS to 6: -1, -1, 0, 1, 1, 2, of which 0, 1, 1 are there.
        CHECK.due("beyond each side", x.stretch(0, -1, -1, 4, 4, 1, 0, 0, 6, 6), 9);
        CHECK.drawing("those that are there", x, 1, "......", "......", "..###.", "..###.", "..###.", "......");
        CHECK.due("the first", x.dot(1, 2, 2), value(0, 0));
        CHECK.due("the last", x.dot(1, 4, 4), value(1, 1));
        CHECK.due("beside it", x.stretch(0, 2, 0, 64, 64, 1, 0, 0, 6, 6), 0);
        CHECK.due("from the left", x.stretch(0, -64, 0, 64, 2, 1, 0, 0, 64, 6), 0);
        x.sheet(1, 6, 6);
        CHECK.due("its targets off the SHEET", x.stretch(0, 0, 0, 2, 2, 1, -2, 5, 4, 4), 2);
        CHECK.drawing("its targets", x, 1, "......", "......", "......", "......", "......", "##....");
        CHECK.due("from the right half", x.dot(1, 0, 5), value(1, 0));
    }

    private static void stretchThroughASheetBetween() {
        CHECK.about("STRETCH, likewise (as if through a SHEET between)");
        DotBench x = numbered(8, 1);
        CHECK.due("wider, to the right", x.stretch(0, 0, 0, 4, 1, 0, 0, 0, 8, 1), 8);
        for (int i = 0; i < 8; i++) {
            CHECK.due("wider " + i, x.dot(0, i, 0), value(i / 2, 0));
        }
        x = numbered(8, 1);
        CHECK.due("narrower, to the right", x.stretch(0, 0, 0, 8, 1, 0, 4, 0, 4, 1), 4);
        for (int i = 0; i < 8; i++) {
            CHECK.due("narrower " + i, x.dot(0, i, 0), value(i < 4 ? i : 2 * (i - 4), 0));
        }
        x = numbered(1, 8);
        CHECK.due("higher, upwards", x.stretch(0, 0, 4, 1, 4, 0, 0, 0, 1, 8), 8);
        for (int i = 0; i < 8; i++) {
            CHECK.due("higher " + i, x.dot(0, 0, i), value(0, 4 + i / 2));
        }
    }
}
