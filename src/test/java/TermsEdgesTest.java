/** PART 1 of the document's terms, sentence by sentence: what stands at the ends of each range, and just beyond. */
public final class TermsEdgesTest {
    private static final Check CHECK = new Check();
    private static final int LEAST = Integer.MIN_VALUE;
    private static final int MOST = Integer.MAX_VALUE;

    public static void main(String[] args) {
        sheetsZeroToThree();
        eachThereOrNot();
        oneToSixtyFourDots();
        dotsOfTheSheetAlone();
        rowsDoNotWrapAround();
        toldAsOneInt();
        noneAboveAlpha();
        ofTwoTheGreater();
        theInkOfAColour();
        theFirstInk();
        waysAtTheEndsOfAlpha();
        atMost255();
        theEndsOfTheMeasure();
        theFirstWayAndOpacity();
        theMeasureOfSixteenSamples();
        clipIsInclusive();
        allAtFirst();
        emptyClips();
        clipsBeyondAnySheet();
        clipBindsNoQuestion();
        leftAsTheyAre();
        touchedOnce();
        touchedThoughTheSame();
        CHECK.end();
    }

    private static void sheetsZeroToThree() {
        CHECK.about("SHEETS 0 to 3");
        DotBench x = new DotBench();
        CHECK.due("sheet(-1, 2, 2)", x.sheet(-1, 2, 2), false);
        CHECK.due("sheet(0, 2, 2)", x.sheet(0, 2, 2), true);
        CHECK.due("sheet(3, 2, 2)", x.sheet(3, 2, 2), true);
        CHECK.due("sheet(4, 2, 2)", x.sheet(4, 2, 2), false);
        x.line(3, 0, 0, 1, 1);
        CHECK.due("SHEET 3 has the LINE", x.count(3, -1), 2);
        CHECK.due("SHEET 0 has not", x.count(0, -1), 0);
    }

    private static void eachThereOrNot() {
        CHECK.about("each there or not");
        for (int there = 0; there < 4; there++) {
            DotBench x = new DotBench();
            x.sheet(there, 3, 3);
            for (int k = 0; k < 4; k++) {
                CHECK.due("SHEET " + k + " beside " + there, x.look(k, 4), k == there ? 3 : -1);
            }
        }
    }

    private static void oneToSixtyFourDots() {
        CHECK.about("of W times H DOTS (1 to 64 each)");
        int[] sides = {LEAST, -64, -1, 0, 1, 2, 63, 64, 65, 66, 256, MOST};
        for (int w : sides) {
            for (int h : sides) {
                boolean right = w >= 1 && w <= 64 && h >= 1 && h <= 64;
                DotBench x = new DotBench();
                CHECK.due("sheet(0, " + w + ", " + h + ")", x.sheet(0, w, h), right);
                CHECK.due("its DOTS", x.count(0, 0), right ? w * h : -1);
            }
        }
    }

    private static void dotsOfTheSheetAlone() {
        CHECK.about("DOT (x, y) with 0 <= x < W, 0 <= y < H");
        DotBench x = Check.benchWith(5, 3);
        int[] beside = {LEAST, -1, 0, 1, 2, 3, 4, 5, 63, 64, MOST};
        for (int column : beside) {
            for (int row : beside) {
                boolean there = column >= 0 && column < 5 && row >= 0 && row < 3;
                CHECK.due("region(0, " + column + ", " + row + ")", x.region(0, column, row, false), there ? 15 : -1);
            }
        }
    }

    private static void rowsDoNotWrapAround() {
        CHECK.about("or not on the SHEET, are left as they are");
        int[][] sizes = {{64, 64}, {5, 3}, {1, 1}, {64, 1}, {1, 64}};
        for (int[] size : sizes) {
            DotBench x = Check.benchWith(size[0], size[1]);
            CHECK.due("left", x.line(0, -1, 0, -1, 63), 0);
            CHECK.due("right", x.line(0, size[0], -1, size[0], 63), 0);
            CHECK.due("above", x.line(0, 0, -1, 63, -1), 0);
            CHECK.due("below", x.line(0, 0, size[1], 63, size[1]), 0);
            CHECK.due("a CIRCLE round it", x.circle(0, size[0] / 2, size[1] / 2, 100), 0);
            CHECK.due("nothing on it", x.count(0, 0), size[0] * size[1]);
            CHECK.due("its last DOT", x.line(0, size[0] - 1, size[1] - 1, size[0] - 1, size[1] - 1), 1);
            CHECK.due("is there", x.dot(0, size[0] - 1, size[1] - 1), -1);
        }
    }

    private static void toldAsOneInt() {
        CHECK.about("told as one int, ALPHA the highest byte, then in this order");
        DotBench x = Check.benchWith(1, 1);
        Check.putDot(x, 0, 0, 0, 0xFF010203);
        CHECK.due("the DOT", x.dot(0, 0, 0), 0xFF010203);
        int[] channels = {255, 1, 2, 3};
        for (int i = 0; i < 4; i++) {
            CHECK.due("CHANNEL " + i, x.look(0, 6 + i), channels[i]);
        }
    }

    private static void noneAboveAlpha() {
        CHECK.about("none of the last three above ALPHA");
        int[] colours = {0xFFFFFFFF, 0x01FFFFFF, 0x80FFFFFF, 0x7FFF80FF, 0xFEFFFEFF, 0x00FFFFFF, 0x03808080};
        for (int way = 0; way <= 12; way++) {
            for (int opacity : new int[] {1, 100, 127, 128, 254, 255}) {
                DotBench x = Check.benchWith(1, 1);
                x.way(way, opacity);
                for (int i = 0; i < 40; i++) {
                    Check.putDot(x, 0, 0, 0, colours[i * 5 % colours.length]);
                    int dot = x.dot(0, 0, 0);
                    int most = Math.max(dot >>> 16 & 255, Math.max(dot >>> 8 & 255, dot & 255));
                    CHECK.due("way " + way + " by " + opacity, most <= dot >>> 24, true);
                    x.way(i % 3 == 0 ? 12 : way, opacity);
                }
            }
        }
    }

    /** A DOT of which one sample of the sixteen is filled, white on nothing: each CHANNEL is the MEASURE. */
    private static int oneSample(int opacity) {
        DotBench x = Check.benchWith(1, 1);
        x.way(1, opacity);
        Check.rectangle(x, 0, 0, 4, 4, false);
        x.fill(0, 1, true);
        return x.dot(0, 0, 0);
    }

    private static void ofTwoTheGreater() {
        CHECK.about("R(n, d) is n / d to the nearest whole number, of two the greater");
        CHECK.due("R(7, 16)", oneSample(7), 0);
        CHECK.due("R(8, 16)", oneSample(8), 0x01010101);
        CHECK.due("R(9, 16)", oneSample(9), 0x01010101);
        CHECK.due("R(23, 16)", oneSample(23), 0x01010101);
        CHECK.due("R(24, 16)", oneSample(24), 0x02020202);
        CHECK.due("R(0, 16)", oneSample(0), 0);
        CHECK.due("R(255, 16)", oneSample(255), 0x10101010);
        // d = 255 has no two as near: 127 / 255 is below a half, 128 / 255 above it.
        CHECK.due("R(127, 255)", inkOf(0x017F7F7F), 0x01000000);
        CHECK.due("R(128, 255)", inkOf(0x01808080), 0x01010101);
    }

    private static int inkOf(int colour) {
        DotBench x = Check.benchWith(1, 1);
        x.way(1, 255);
        Check.putDot(x, 0, 0, 0, colour);
        return x.dot(0, 0, 0);
    }

    private static void theInkOfAColour() {
        CHECK.about("of the colour a, r, g, b told: a, R(r a, 255), R(g a, 255), R(b a, 255)");
        CHECK.due("ALPHA 0", inkOf(0x00FFFFFF), 0);
        CHECK.due("all 0", inkOf(0), 0);
        CHECK.due("all 255", inkOf(0xFFFFFFFF), 0xFFFFFFFF);
        CHECK.due("full ALPHA leaves them", inkOf(0xFF007F80), 0xFF007F80);
        CHECK.due("no RED, GREEN, BLUE", inkOf(0xFE000000), 0xFE000000);
        CHECK.due("254 of 255", inkOf(0xFEFFFE01), 0xFEFEFD01);
        CHECK.due("the highest bit of the int", inkOf(0x80000000), 0x80000000);
        CHECK.due("the greatest int", inkOf(0x7FFFFFFF), 0x7F7F7F7F);
    }

    private static void theFirstInk() {
        CHECK.about("At first all 255");
        DotBench x = Check.benchWith(1, 1);
        x.way(1, 255);
        x.line(0, 0, 0, 0, 0);
        CHECK.due("the DOT", x.dot(0, 0, 0), 0xFFFFFFFF);
    }

    private static int laid(int way, int opacity, int below, int above) {
        DotBench x = Check.benchWith(1, 1);
        x.way(1, 255);
        Check.putDot(x, 0, 0, 0, below);
        x.way(way, opacity);
        Check.putDot(x, 0, 0, 0, above);
        return x.dot(0, 0, 0);
    }

    private static void waysAtTheEndsOfAlpha() {
        CHECK.about("WAYS, with s the INK's ALPHA and d that of the DOT there, p and q");
        int s = 0xFF0000C8;
        int d = 0xFF00C800;
        int sum = 0xFF00C8C8;
        int[] onNothing = {0, s, 0, s, s, 0, 0, s, 0, 0, s, s, s};
        int[] ofNothing = {0, 0, d, d, d, 0, 0, 0, d, d, 0, d, d};
        int[] ofBoth = {0, s, d, s, d, s, d, 0, 0, s, d, 0, sum};
        for (int way = 0; way <= 12; way++) {
            CHECK.due("way " + way + " of nothing on nothing", laid(way, 255, 0, 0), 0);
            CHECK.due("way " + way + " on nothing", laid(way, 255, 0, s), onNothing[way]);
            CHECK.due("way " + way + " of nothing", laid(way, 255, d, 0), ofNothing[way]);
            CHECK.due("way " + way + " of full on full", laid(way, 255, d, s), ofBoth[way]);
        }
    }

    private static void atMost255() {
        CHECK.about("v = R(S p + D q, 255), at most 255");
        CHECK.due("PLUS to 255", laid(12, 255, 0xFF7F7F7F, 0xFF808080), 0xFFFFFFFF);
        CHECK.due("PLUS to 256", laid(12, 255, 0xFF808080, 0xFF808080), 0xFFFFFFFF);
        CHECK.due("PLUS to 254", laid(12, 255, 0xFF7F7F7F, 0xFF7F7F7F), 0xFFFEFEFE);
        CHECK.due("PLUS to 510", laid(12, 255, 0xFFFFFFFF, 0xFFFFFFFF), 0xFFFFFFFF);
        // It is v that is cut at 255, before the MEASURE: (255 * 128 + 200 * 127) / 255 = 227.6.
        CHECK.due("PLUS by 128", laid(12, 128, 0xFFC8C8C8, 0xFFC8C8C8), 0xFFE4E4E4);
    }

    private static void theEndsOfTheMeasure() {
        CHECK.about("the MEASURE m (0 to 255)");
        for (int way = 0; way <= 12; way++) {
            CHECK.due("way " + way + " by 0", laid(way, 0, 0xFF102030, 0xFF405060), 0xFF102030);
        }
        CHECK.due("SOURCE by 255", laid(1, 255, 0xFF102030, 0xFF405060), 0xFF405060);
        CHECK.due("CLEAR by 255", laid(0, 255, 0xFF102030, 0xFF405060), 0);
        CHECK.due("CLEAR by 1", laid(0, 1, 0xFFFFFFFF, 0), 0xFEFEFEFE);
        CHECK.due("SOURCE by 254", laid(1, 254, 0, 0xFFFFFFFF), 0xFEFEFEFE);
    }

    private static void theFirstWayAndOpacity() {
        CHECK.about("The WAY is 3, OPACITY 255 at first");
        DotBench x = Check.benchWith(1, 1);
        Check.putDot(x, 0, 0, 0, 0xFF0000FF);
        Check.putDot(x, 0, 0, 0, 0x80FF0000);
        CHECK.due("red by half over blue", x.dot(0, 0, 0), 0xFF80007F);
    }

    private static void theMeasureOfSixteenSamples() {
        CHECK.about("m is OPACITY, with smoothing R(OPACITY c, 16) for c of 16 samples");
        int[] parts = {0, 0x10, 0x20, 0x30, 0x40, 0x50, 0x60, 0x70, 0x80, 0x8F, 0x9F, 0xAF, 0xBF, 0xCF, 0xDF, 0xEF, 0xFF};
        for (int c = 0; c <= 16; c++) {
            DotBench x = Check.benchWith(1, 1);
            // Whole rows of samples, and what is left over from the next row: an L of c samples.
            Check.rectangle(x, 0, 0, 16, 4 * (c / 4), false);
            Check.rectangle(x, 0, 4 * (c / 4), 4 * (c % 4), 4 * (c / 4) + 4, false);
            CHECK.due("TOUCHED by " + c, x.fill(0, 0, true), c == 0 ? 0 : 1);
            CHECK.due("c = " + c, x.dot(0, 0, 0), parts[c] * 0x01010101);
        }
    }

    private static void clipIsInclusive() {
        CHECK.about("X0 to X1, Y0 to Y1 (inclusive");
        DotBench x = Check.benchWith(6, 5);
        x.clip(1, 2, 4, 3);
        CHECK.due("four times two", x.stretch(0, 0, 0, 1, 1, 0, 0, 0, 64, 64), 8);
        x.ink(-1);
        x.flood(0, 1, 2, false);
        CHECK.drawing("clip(1, 2, 4, 3)", x, 0, "......", "......", ".####.", ".####.", "......");
        x.sheet(0, 6, 5);
        x.clip(3, 4, 3, 4);
        CHECK.due("X0 = X1, Y0 = Y1: one DOT", x.flood(0, 3, 4, true), 1);
        CHECK.drawing("clip(3, 4, 3, 4)", x, 0, "......", "......", "......", "......", "...#..");
    }

    private static void allAtFirst() {
        CHECK.about("all at first");
        DotBench x = Check.benchWith(64, 64);
        CHECK.due("the greatest SHEET", x.flood(0, 31, 31, false), 4096);
    }

    /** A bench whose every drawing call would touch DOTS of its SHEETS 0 and 1, were THE CLIP not in the way. */
    private static DotBench fullBench() {
        DotBench x = Check.benchWith(8, 8);
        x.sheet(1, 8, 8);
        Check.rectangle(x, 0, 0, 128, 128, false);
        x.corner(0, 0, 0, -1);
        x.corner(1, 8, 0, -1);
        x.corner(2, 0, 8, -1);
        return x;
    }

    private static void drawingTouches(DotBench x, String name, int... touched) {
        CHECK.due(name + " line", x.line(0, 0, 0, 7, 7), touched[0]);
        CHECK.due(name + " circle", x.circle(0, 4, 4, 1), touched[1]);
        CHECK.due(name + " fill", x.fill(0, 1, false), touched[2]);
        CHECK.due(name + " fill, smoothed", x.fill(0, 1, true), touched[3]);
        CHECK.due(name + " shade", x.shade(0), touched[4]);
        CHECK.due(name + " flood", x.flood(1, 4, 4, false), touched[5]);
        CHECK.due(name + " copy", x.copy(0, 0, 0, 8, 8, 1, 0, 0), touched[6]);
        CHECK.due(name + " stretch", x.stretch(0, 0, 0, 8, 8, 1, 0, 0, 4, 4), touched[7]);
        CHECK.due(name + " copy onto itself", x.copy(1, 0, 0, 8, 8, 1, 1, 1), touched[8]);
    }

    private static void emptyClips() {
        CHECK.about("X0 above X1: nothing");
        int[][] clips = {{4, 0, 3, 7}, {0, 4, 7, 3}, {1, 1, 0, 0}, {MOST, 0, LEAST, 7}, {0, MOST, 7, LEAST},
            {7, 0, 0, 7}, {0, 7, 7, 0}, {0, 0, -1, 7}, {8, 0, 7, 7}};
        for (int[] c : clips) {
            DotBench x = fullBench();
            x.clip(c[0], c[1], c[2], c[3]);
            drawingTouches(x, "clip(" + c[0] + ", " + c[1] + ", " + c[2] + ", " + c[3] + ")", 0, 0, 0, 0, 0, 0, 0, 0, 0);
            CHECK.due("SHEET 0 stays", x.count(0, 0), 64);
            CHECK.due("SHEET 1 stays", x.count(1, 0), 64);
            x.clip(LEAST, LEAST, MOST, MOST);
            drawingTouches(x, "then all", 8, 4, 64, 64, 28, 64, 64, 16, 49);
        }
    }

    private static void clipsBeyondAnySheet() {
        CHECK.about("DOTS outside it, or not on the SHEET, are left as they are");
        int[][] beside = {{-9, 0, -1, 7}, {8, 0, 99, 7}, {0, -9, 7, -1}, {0, 8, 7, 99}, {LEAST, LEAST, LEAST, MOST},
            {MOST, LEAST, MOST, MOST}};
        for (int[] c : beside) {
            DotBench x = fullBench();
            x.clip(c[0], c[1], c[2], c[3]);
            drawingTouches(x, "beside the SHEET", 0, 0, 0, 0, 0, 0, 0, 0, 0);
        }
        int[][] round = {{0, 0, 7, 7}, {-1, -1, 8, 8}, {LEAST, 0, 7, MOST}, {0, LEAST, MOST, 7}};
        for (int[] c : round) {
            DotBench x = fullBench();
            x.clip(c[0], c[1], c[2], c[3]);
            drawingTouches(x, "round the SHEET", 8, 4, 64, 64, 28, 64, 64, 16, 49);
        }
    }

    private static void clipBindsNoQuestion() {
        CHECK.about("THE CLIP: DOTS outside it are left as they are");
        DotBench x = Check.benchWith(3, 3);
        x.sheet(1, 3, 3);
        x.line(0, 0, 1, 2, 1);
        x.clip(1, 1, 0, 0);
        CHECK.due("dot", x.dot(0, 2, 1), -1);
        CHECK.due("count", x.count(0, -1), 3);
        CHECK.due("region", x.region(0, 0, 1, false), 3);
        CHECK.due("differ", x.differ(0, 1), 3);
        CHECK.due("look", x.look(0, 1), 2);
        x.clip(0, 2, 2, 2);
        CHECK.due("a copy's source", x.copy(0, 0, 1, 3, 1, 1, 0, 2), 3);
        CHECK.due("is not bound", x.count(1, -1), 3);
        CHECK.due("a new SHEET", x.sheet(0, 3, 3), true);
        CHECK.due("is not bound", x.count(0, 0), 9);
    }

    private static void leftAsTheyAre() {
        CHECK.about("are left as they are");
        DotBench x = Check.benchWith(4, 4);
        x.ink(0xFF112233);
        x.flood(0, 0, 0, false);
        x.clip(1, 1, 2, 2);
        x.way(0, 255);
        Check.rectangle(x, 0, 0, 64, 64, true);
        CHECK.due("CLEAR in THE CLIP", x.fill(0, 0, false), 4);
        CHECK.due("what is left", x.count(0, 0xFF112233), 12);
        CHECK.drawing("the hole", x, 0, "####", "#..#", "#..#", "####");
    }

    private static void touchedOnce() {
        CHECK.about("A DOT is TOUCHED once by what is drawn by one call");
        // With PLUS of 1 a DOT tells how often it has been LAID.
        DotBench x = Check.benchWith(64, 64);
        x.way(12, 255);
        x.ink(0x01000000);
        int[] radii = {0, 1, 2, 3, 4, 5, 10, 20, 29, 31};
        for (int r : radii) {
            x.sheet(0, 64, 64);
            int touched = x.circle(0, 32, 32, r);
            CHECK.due("circle " + r, x.count(0, 0x01000000), touched);
            CHECK.due("circle " + r + ": no more", x.look(0, 6), touched);
        }
        x.sheet(0, 64, 64);
        Check.rectangle(x, 0, 0, 160, 160, false);
        Check.rectangle(x, 80, 80, 240, 240, false);
        Check.rectangle(x, 0, 0, 160, 160, false);
        CHECK.due("fill where CONTOURS lie on one another", x.fill(0, 1, false), 175);
        CHECK.due("each once", x.look(0, 6), 175);
        CHECK.due("line there", x.line(0, 40, 40, 50, 40), 11);
        CHECK.due("each once more", x.look(0, 6), 186);
    }

    private static void touchedThoughTheSame() {
        CHECK.about("how many DOTS it TOUCHED (also if they stay the same)");
        int[][] idle = {{2, 255}, {1, 0}, {3, 0}, {12, 0}};
        for (int[] one : idle) {
            DotBench x = fullBench();
            x.way(one[0], one[1]);
            drawingTouches(x, "way(" + one[0] + ", " + one[1] + ")", 8, 4, 64, 64, 28, 64, 64, 16, 49);
            CHECK.due("SHEET 0 stays", x.count(0, 0), 64);
            CHECK.due("SHEET 1 stays", x.count(1, 0), 64);
        }
    }
}
