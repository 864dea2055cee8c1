/** Promises 1, 2, 17, 18, 20 and 21: a new object, sheet, dot, count, differ, look. */
public final class SheetsTest {
    private static final Check CHECK = new Check();

    public static void main(String[] args) {
        newObject();
        sheet();
        dot();
        count();
        differ();
        look();
        CHECK.end();
    }

    private static void newObject() {
        DotBench x = new DotBench();
        for (int k = -1; k <= 4; k++) {
            CHECK.due("new: count(" + k + ", 0)", x.count(k, 0), -1);
            CHECK.due("new: look(" + k + ", 4)", x.look(k, 4), -1);
            CHECK.due("new: dot(" + k + ", 0, 0)", x.dot(k, 0, 0), 0);
            CHECK.due("new: line", x.line(k, 0, 0, 1, 1), -1);
            CHECK.due("new: circle", x.circle(k, 0, 0, 1), -1);
            CHECK.due("new: fill", x.fill(k, 0, true), -1);
            CHECK.due("new: shade", x.shade(k), -1);
            CHECK.due("new: flood", x.flood(k, 0, 0, true), -1);
            CHECK.due("new: region", x.region(k, 0, 0, true), -1);
            CHECK.due("new: differ", x.differ(k, k), -1);
        }
        CHECK.due("new: inside(0, 0, 1)", x.inside(0, 0, 1), 0);
        x.sheet(0, 4, 4);
        CHECK.due("new: an empty PATH fills nothing", x.fill(0, 1, true), 0);
        CHECK.due("new: a triangle without area", x.shade(0), 0);
        CHECK.due("new: the first POINT", x.point(0, 0, false), 1);
        CHECK.due("new: INK, WAY, OPACITY, CLIP, DASHES", x.line(0, 0, 0, 3, 0), 4);
        CHECK.due("new: the DOTS of the LINE", x.count(0, -1), 4);
    }

    private static void sheet() {
        DotBench x = new DotBench();
        int[][] wrong = {{-1, 1, 1}, {4, 1, 1}, {0, 0, 1}, {0, 1, 0}, {0, 65, 1}, {0, 1, 65}, {0, -1, 1},
            {Integer.MIN_VALUE, 1, 1}, {Integer.MAX_VALUE, 1, 1}, {0, Integer.MAX_VALUE, 1}, {0, 1, Integer.MIN_VALUE}};
        for (int[] one : wrong) {
            CHECK.due("sheet of wrong " + one[0] + " " + one[1] + " " + one[2], x.sheet(one[0], one[1], one[2]), false);
        }
        CHECK.due("refused sheets are not there", x.look(0, 4), -1);
        for (int k = 0; k < 4; k++) {
            CHECK.due("sheet(" + k + ", 64, 1)", x.sheet(k, 64, 1), true);
        }
        CHECK.due("sheet(1, 1, 64)", x.sheet(1, 1, 64), true);
        CHECK.due("sheet(2, 64, 64)", x.sheet(2, 64, 64), true);
        CHECK.due("W of 1", x.look(1, 4), 1);
        CHECK.due("H of 1", x.look(1, 5), 64);
        CHECK.due("W of 0", x.look(0, 4), 64);
        CHECK.due("DOTS of 2", x.count(2, 0), 4096);
        x.line(2, 0, 0, 63, 63);
        CHECK.due("sheet(2, 0, 9) is refused", x.sheet(2, 0, 9), false);
        CHECK.due("and leaves the DOTS", x.count(2, -1), 64);
        CHECK.due("sheet(2, 5, 3)", x.sheet(2, 5, 3), true);
        CHECK.due("the former one is gone", x.count(2, 0), 15);
        x.sheet(2, 64, 64);
        CHECK.due("for good", x.count(2, 0), 4096);
    }

    private static void dot() {
        DotBench x = Check.benchWith(3, 2);
        x.line(0, 2, 1, 2, 1);
        CHECK.due("dot(0, 2, 1)", x.dot(0, 2, 1), -1);
        int[][] none = {{-1, 0}, {3, 0}, {0, -1}, {0, 2}, {66, 0}, {Integer.MAX_VALUE, 1}, {2, Integer.MIN_VALUE}};
        for (int[] one : none) {
            CHECK.due("dot off the SHEET " + one[0] + " " + one[1], x.dot(0, one[0], one[1]), 0);
        }
        CHECK.due("dot(1, 0, 0)", x.dot(1, 0, 0), 0);
        CHECK.due("dot(-1, 2, 1)", x.dot(-1, 2, 1), 0);
        CHECK.due("dot(4, 2, 1)", x.dot(4, 2, 1), 0);
    }

    private static void count() {
        DotBench x = Check.benchWith(6, 5);
        x.ink(0xFF102030);
        x.line(0, 0, 2, 5, 2);
        CHECK.due("count of the INK", x.count(0, 0xFF102030), 6);
        CHECK.due("count of 0", x.count(0, 0), 24);
        CHECK.due("count of what is not there", x.count(0, 7), 0);
        CHECK.due("count(3, 0)", x.count(3, 0), -1);
        CHECK.due("count(4, 0)", x.count(4, 0), -1);
    }

    private static void differ() {
        DotBench x = Check.benchWith(6, 5);
        x.sheet(1, 6, 5);
        x.sheet(2, 5, 6);
        x.sheet(3, 6, 6);
        CHECK.due("differ(0, 1) of empty ones", x.differ(0, 1), 0);
        x.line(0, 0, 0, 4, 4);
        x.line(1, 0, 0, 2, 2);
        CHECK.due("differ(0, 1)", x.differ(0, 1), 2);
        CHECK.due("differ(1, 0)", x.differ(1, 0), 2);
        CHECK.due("differ(0, 0)", x.differ(0, 0), 0);
        CHECK.due("differ of other sizes", x.differ(0, 2), -1);
        CHECK.due("differ of other heights", x.differ(0, 3), -1);
        CHECK.due("differ(0, 4)", x.differ(0, 4), -1);
        CHECK.due("differ(-1, 0)", x.differ(-1, 0), -1);
    }

    private static void look() {
        DotBench x = Check.benchWith(9, 7);
        for (int what = 0; what < 4; what++) {
            CHECK.due("look(0, " + what + ") of nothing", x.look(0, what), -1);
        }
        x.ink(0x80FF4000);
        x.line(0, 2, 5, 2, 5);
        x.line(0, 6, 1, 6, 1);
        int[] want = {2, 6, 1, 5, 9, 7, 256, 256, 64, 0};
        for (int what = 0; what < 10; what++) {
            CHECK.due("look(0, " + what + ")", x.look(0, what), want[what]);
        }
        CHECK.due("look(0, 10)", x.look(0, 10), -1);
        CHECK.due("look(0, -1)", x.look(0, -1), -1);
        CHECK.due("look(0, MIN)", x.look(0, Integer.MIN_VALUE), -1);
        CHECK.due("look(1, 4)", x.look(1, 4), -1);
        CHECK.due("look(4, 6)", x.look(4, 6), -1);
        DotBench full = Check.benchWith(64, 64);
        full.flood(0, 0, 0, false);
        CHECK.due("the greatest sum", full.look(0, 9), 255 * 4096);
    }
}
