/** Promises 14 and 19: flood, region. */
public final class FloodTest {
    private static final Check CHECK = new Check();

    public static void main(String[] args) {
        sidesAndCorners();
        clip();
        laying();
        wrong();
        longest();
        CHECK.end();
    }

    private static void sidesAndCorners() {
        DotBench x = Check.benchWith(5, 5);
        x.line(0, 0, 4, 4, 0);
        CHECK.due("region by sides", x.region(0, 0, 0, false), 10);
        CHECK.due("region by corners goes across the LINE", x.region(0, 0, 0, true), 20);
        CHECK.due("region of the LINE by sides", x.region(0, 2, 2, false), 1);
        CHECK.due("region of the LINE by corners", x.region(0, 2, 2, true), 5);
        x.ink(0xFF00FF00);
        CHECK.due("flood by sides", x.flood(0, 2, 2, false), 1);
        CHECK.due("flood by corners stops at another value", x.flood(0, 4, 0, true), 2);
        CHECK.due("flood of the rest", x.flood(0, 4, 4, false), 10);
        CHECK.due("what is left", x.count(0, 0), 10);
        CHECK.due("what is green", x.count(0, 0xFF00FF00), 13);
    }

    private static void clip() {
        DotBench x = Check.benchWith(7, 3);
        // Two chambers that hang together only by row 0.
        x.line(0, 3, 1, 3, 2);
        x.clip(0, 1, 6, 2);
        x.ink(0xFF0000FF);
        CHECK.due("region has the whole SHEET", x.region(0, 0, 1, false), 19);
        CHECK.due("flood hangs together in THE CLIP", x.flood(0, 0, 1, false), 6);
        CHECK.due("outside THE CLIP", x.flood(0, 0, 0, false), 0);
        CHECK.due("the right chamber", x.region(0, 6, 2, false), 13);
        x.clip(3, 0, 2, 2);
        CHECK.due("an empty CLIP", x.flood(0, 4, 1, true), 0);
    }

    private static void laying() {
        DotBench x = Check.benchWith(3, 3);
        x.ink(0x80FFFFFF);
        CHECK.due("flood once", x.flood(0, 0, 0, false), 9);
        CHECK.due("OVER once", x.count(0, 0x80808080), 9);
        CHECK.due("flood twice", x.flood(0, 2, 2, false), 9);
        CHECK.due("OVER twice", x.count(0, 0xC0C0C0C0), 9);
        x.way(2, 255);
        CHECK.due("TOUCHED though it stays", x.flood(0, 1, 1, false), 9);
        CHECK.due("STAY", x.count(0, 0xC0C0C0C0), 9);
    }

    private static void wrong() {
        DotBench x = Check.benchWith(3, 2);
        int[][] places = {{-1, 0}, {0, -1}, {3, 0}, {0, 2}, {Integer.MAX_VALUE, 0}, {0, Integer.MIN_VALUE}};
        for (int[] one : places) {
            CHECK.due("flood from no DOT", x.flood(0, one[0], one[1], true), -1);
            CHECK.due("region of no DOT", x.region(0, one[0], one[1], true), -1);
        }
        x.clip(1, 1, 0, 0);
        CHECK.due("no DOT, though THE CLIP is empty", x.flood(0, 3, 0, true), -1);
        for (int k = -1; k <= 4; k++) {
            if (k != 0) {
                CHECK.due("flood of no SHEET", x.flood(k, 0, 0, false), -1);
                CHECK.due("region of no SHEET", x.region(k, 0, 0, false), -1);
            }
        }
    }

    private static void longest() {
        DotBench x = Check.benchWith(64, 64);
        for (int y = 1; y < 64; y += 2) {
            x.line(0, y % 4 == 1 ? 0 : 1, y, y % 4 == 1 ? 62 : 63, y);
        }
        CHECK.due("a winding way", x.region(0, 0, 0, false), 32 * 64 + 32);
        CHECK.due("the whole SHEET", x.region(0, 0, 1, false), 63);
        x.sheet(0, 64, 64);
        CHECK.due("4096 DOTS", x.flood(0, 63, 63, true), 4096);
    }
}
