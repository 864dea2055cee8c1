/** Promises 15 and 16: copy, stretch. */
public final class CopyTest {
    private static final Check CHECK = new Check();

    public static void main(String[] args) {
        toAnother();
        partsThatAreNotThere();
        ontoItself();
        laying();
        wrongCopies();
        larger();
        smaller();
        stretchedOntoItself();
        wrongStretches();
        CHECK.end();
    }

    /** SHEET 0 of w times h DOTS, each of a value of its own: ALPHA full, RED its x, GREEN its y. */
    private static DotBench numbered(int w, int h) {
        DotBench x = Check.benchWith(w, h);
        for (int j = 0; j < h; j++) {
            for (int i = 0; i < w; i++) {
                x.ink(value(i, j));
                x.line(0, i, j, i, j);
            }
        }
        return x;
    }

    private static int value(int x, int y) {
        return 0xFF000000 | x << 16 | y << 8;
    }

    private static void toAnother() {
        DotBench x = numbered(5, 4);
        x.sheet(1, 6, 6);
        CHECK.due("copy of 3 times 2", x.copy(0, 1, 1, 3, 2, 1, 2, 3), 6);
        for (int j = 0; j < 6; j++) {
            for (int i = 0; i < 6; i++) {
                boolean there = i >= 2 && i < 5 && j >= 3 && j < 5;
                CHECK.due("copied " + i + " " + j, x.dot(1, i, j), there ? value(i - 1, j - 2) : 0);
            }
        }
        x.clip(0, 0, 2, 9);
        CHECK.due("in THE CLIP, which is the target's", x.copy(0, 3, 0, 2, 4, 1, 1, 0), 8);
        CHECK.due("no DOTS", x.copy(0, 0, 0, 0, 64, 1, 0, 0), 0);
    }

    private static void partsThatAreNotThere() {
        DotBench x = numbered(3, 3);
        x.sheet(1, 3, 3);
        CHECK.due("from left of it", x.copy(0, -2, -1, 3, 3, 1, 0, 0), 2);
        CHECK.due("at its place", x.dot(1, 2, 1), value(0, 0));
        CHECK.due("below it", x.dot(1, 2, 2), value(0, 1));
        CHECK.due("what is not there is not laid", x.count(1, 0), 7);
        CHECK.due("all, to the far right", x.copy(0, 0, 0, 64, 64, 1, 2, 2), 1);
        CHECK.due("far away", x.copy(0, -200, 200, 64, 64, 1, 200, -200), 0);
        CHECK.due("from far left", x.copy(0, -61, -61, 64, 64, 1, -61, -61), 9);
        CHECK.due("the same", x.differ(0, 1), 0);
    }

    private static void ontoItself() {
        int[][] moves = {{1, 0}, {-1, 0}, {0, 1}, {0, -1}, {1, 1}, {-1, -1}, {1, -1}};
        for (int[] move : moves) {
            DotBench x = numbered(5, 5);
            x.copy(0, 0, 0, 5, 5, 0, move[0], move[1]);
            for (int j = 0; j < 5; j++) {
                for (int i = 0; i < 5; i++) {
                    int fromX = i - move[0];
                    int fromY = j - move[1];
                    boolean moved = fromX >= 0 && fromX < 5 && fromY >= 0 && fromY < 5;
                    CHECK.due("moved " + i + " " + j, x.dot(0, i, j), moved ? value(fromX, fromY) : value(i, j));
                }
            }
        }
    }

    private static void laying() {
        DotBench x = Check.benchWith(2, 1);
        x.sheet(1, 2, 1);
        x.ink(0x80FF0000);
        x.line(0, 0, 0, 0, 0);
        x.ink(0x4000FF00);
        x.flood(1, 0, 0, false);
        CHECK.due("OVER", x.copy(0, 0, 0, 2, 1, 1, 0, 0), 2);
        CHECK.due("0x80 over 0x40", x.dot(1, 0, 0), 0xA0802000);
        CHECK.due("nothing over 0x40", x.dot(1, 1, 0), 0x40004000);
        x.way(6, 255);
        x.copy(0, 0, 0, 2, 1, 1, 0, 0);
        CHECK.due("STAY IN 0x80", x.dot(1, 0, 0), 0x50401000);
        CHECK.due("STAY IN nothing", x.dot(1, 1, 0), 0);
        x.way(1, 51);
        x.copy(0, 0, 0, 1, 1, 1, 1, 0);
        CHECK.due("SOURCE by a fifth", x.dot(1, 1, 0), 0x1A1A0000);
    }

    private static void wrongCopies() {
        DotBench x = numbered(3, 3);
        x.sheet(1, 3, 3);
        int[][] wrong = {{2, 0, 0, 1, 1, 1, 0, 0}, {0, 0, 0, 1, 1, 3, 0, 0}, {-1, 0, 0, 1, 1, 1, 0, 0},
            {0, 0, 0, 1, 1, 4, 0, 0}, {0, 0, 0, -1, 1, 1, 0, 0}, {0, 0, 0, 1, -1, 1, 0, 0}, {0, 0, 0, 65, 1, 1, 0, 0},
            {0, 0, 0, 1, 65, 1, 0, 0}, {0, 201, 0, 1, 1, 1, 0, 0}, {0, 0, -201, 1, 1, 1, 0, 0},
            {0, 0, 0, 1, 1, 1, -201, 0}, {0, 0, 0, 1, 1, 1, 0, 201}, {0, 0, 0, 0, 0, 1, 0, 201},
            {0, Integer.MIN_VALUE, 0, 1, 1, 1, 0, 0}, {0, 0, 0, 1, 1, 1, 0, Integer.MAX_VALUE}};
        for (int[] o : wrong) {
            CHECK.due("a wrong copy", x.copy(o[0], o[1], o[2], o[3], o[4], o[5], o[6], o[7]), -1);
        }
        CHECK.due("nothing was laid", x.count(1, 0), 9);
    }

    private static void larger() {
        DotBench x = numbered(3, 2);
        x.sheet(1, 9, 6);
        CHECK.due("stretch to 7 times 5", x.stretch(0, 0, 0, 3, 2, 1, 1, 1, 7, 5), 35);
        int[] fromX = {0, 0, 0, 1, 1, 2, 2};
        int[] fromY = {0, 0, 0, 1, 1};
        for (int j = 0; j < 5; j++) {
            for (int i = 0; i < 7; i++) {
                CHECK.due("stretched " + i + " " + j, x.dot(1, 1 + i, 1 + j), value(fromX[i], fromY[j]));
            }
        }
        CHECK.due("the rest", x.count(1, 0), 54 - 35);
    }

    private static void smaller() {
        DotBench x = numbered(8, 8);
        x.sheet(1, 4, 4);
        CHECK.due("shrunk to 3 times 2", x.stretch(0, -1, 0, 8, 8, 1, 0, 0, 3, 2), 4);
        // -1 + (0, 8/3, 16/3) cut downwards is -1, 1, 4; the first is not there.
        CHECK.due("not there", x.dot(1, 0, 0), 0);
        CHECK.due("from 1 0", x.dot(1, 1, 0), value(1, 0));
        CHECK.due("from 4 4", x.dot(1, 2, 1), value(4, 4));
        CHECK.due("64 from 1", x.stretch(0, 7, 7, 1, 1, 1, -60, -60, 64, 64), 16);
        CHECK.due("all the same", x.count(1, value(7, 7)), 16);
    }

    private static void stretchedOntoItself() {
        DotBench x = numbered(6, 1);
        CHECK.due("stretched onto itself", x.stretch(0, 0, 0, 3, 1, 0, 0, 0, 6, 1), 6);
        for (int i = 0; i < 6; i++) {
            CHECK.due("through a SHEET between " + i, x.dot(0, i, 0), value(i / 2, 0));
        }
    }

    private static void wrongStretches() {
        DotBench x = numbered(3, 3);
        x.sheet(1, 3, 3);
        int[] right = {0, 0, 0, 1, 1, 1, 0, 0, 1, 1};
        int[][] wrong = {{0, 2}, {0, -1}, {0, 4}, {5, 2}, {1, 201}, {2, -201}, {6, 201}, {7, -201}, {3, 0}, {4, 0},
            {8, 0}, {9, 0}, {3, 65}, {4, 65}, {8, 65}, {9, 65}, {8, -1},
            {9, Integer.MIN_VALUE}, {3, Integer.MAX_VALUE}};
        for (int[] one : wrong) {
            int[] o = right.clone();
            o[one[0]] = one[1];
            CHECK.due("a wrong stretch by " + one[0] + " of " + one[1],
                    x.stretch(o[0], o[1], o[2], o[3], o[4], o[5], o[6], o[7], o[8], o[9]), -1);
        }
        CHECK.due("nothing was laid", x.count(1, 0), 9);
        CHECK.due("the right one", x.stretch(0, 0, 0, 1, 1, 1, 0, 0, 1, 1), 1);
    }
}
