/** The promises 1 to 22, each sentence of theirs that names an edge and is not a range of RefusedTest's. */
public final class PromiseEdgesTest {
    private static final Check CHECK = new Check();
    private static final int LEAST = Integer.MIN_VALUE;
    private static final int MOST = Integer.MAX_VALUE;
    private static final int RED = 0xFFFF0000;

    public static void main(String[] args) {
        newObject();
        memoryOfItsOwn();
        formerSheet();
        ink();
        way();
        clip();
        dashes();
        line();
        circle();
        point();
        clear();
        fill();
        corner();
        shade();
        flood();
        copy();
        stretch();
        dot();
        count();
        region();
        differ();
        look();
        inside();
        the512thCall();
        CHECK.end();
    }

    private static void newObject() {
        CHECK.about("Promise 1: No SHEETS, an empty PATH.");
        DotBench x = new DotBench();
        for (int k = 0; k < 4; k++) {
            for (int what = 0; what <= 9; what++) {
                CHECK.due("look(" + k + ", " + what + ")", x.look(k, what), -1);
            }
            CHECK.due("fill", x.fill(k, 1, false), -1);
            CHECK.due("copy", x.copy(k, 0, 0, 1, 1, k, 0, 0), -1);
            CHECK.due("stretch", x.stretch(k, 0, 0, 1, 1, k, 0, 0, 1, 1), -1);
        }
        CHECK.due("inside, rule 0", x.inside(0, 0, 0), 0);
        CHECK.due("inside, rule 1", x.inside(0, 0, 1), 0);
        CHECK.due("the first POINT", x.point(1, 1, false), 1);
    }

    private static void memoryOfItsOwn() {
        CHECK.about("All memory is the bench's own.");
        DotBench x = Check.benchWith(4, 4);
        DotBench y = new DotBench();
        CHECK.due("the other has no SHEET", y.look(0, 4), -1);
        y.sheet(0, 4, 4);
        x.ink(RED);
        x.way(1, 100);
        x.clip(0, 0, 0, 0);
        x.dashes(0);
        Check.rectangle(x, 0, 0, 64, 64, false);
        x.corner(1, 4, 0, RED);
        x.corner(2, 0, 4, RED);
        x.flood(0, 0, 0, false);
        CHECK.due("nor its DOTS", y.count(0, 0), 16);
        CHECK.due("nor its PATH", y.fill(0, 1, false), 0);
        CHECK.due("nor its triangle", y.shade(0), 0);
        CHECK.due("nor its CLIP and DASHES", y.line(0, 0, 0, 3, 3), 4);
        CHECK.due("nor its INK and WAY", y.count(0, -1), 4);
    }

    private static void formerSheet() {
        CHECK.about("Promise 2: w times h DOTS of 0 (a former one is gone)");
        int[][] sizes = {{4, 4}, {2, 3}, {8, 8}, {1, 1}, {64, 64}, {64, 1}, {1, 64}, {4, 4}};
        DotBench x = Check.benchWith(6, 6);
        x.sheet(1, 2, 2);
        x.line(1, 0, 0, 1, 1);
        for (int[] size : sizes) {
            x.flood(0, 0, 0, false);
            CHECK.due("a new one", x.sheet(0, size[0], size[1]), true);
            CHECK.due("its W", x.look(0, 4), size[0]);
            CHECK.due("its H", x.look(0, 5), size[1]);
            CHECK.due("all 0", x.count(0, 0), size[0] * size[1]);
            CHECK.due("no box", x.look(0, 1), -1);
            CHECK.due("the other one stays", x.count(1, -1), 2);
        }
    }

    private static void ink() {
        CHECK.about("Promise 3: The INK is that of a colour");
        DotBench x = Check.benchWith(4, 1);
        Check.putDot(x, 0, 0, 0, RED);
        x.ink(0x80FFFFFF);
        CHECK.due("what is LAID stays", x.dot(0, 0, 0), RED);
        x.ink(0x40FFFFFF);
        x.line(0, 1, 0, 1, 0);
        CHECK.due("the last told counts", x.dot(0, 1, 0), 0x40404040);
        x.ink(0);
        CHECK.due("an INK of 0 touches", x.line(0, 0, 0, 3, 0), 4);
        CHECK.due("but OVER leaves the DOT", x.dot(0, 0, 0), RED);
        Check.putDot(x, 0, 2, 0, LEAST);
        CHECK.due("the least int: half black", x.dot(0, 2, 0), 0x80000000);
        Check.putDot(x, 0, 3, 0, MOST);
        CHECK.due("the greatest int: not quite half white", x.dot(0, 3, 0), 0x7F7F7F7F);
    }

    private static void way() {
        CHECK.about("Promise 4: The WAY (0 to 12) and OPACITY (0 to 255)");
        for (int way = -2; way <= 14; way++) {
            for (int opacity : new int[] {-1, 0, 1, 254, 255, 256}) {
                DotBench x = Check.benchWith(1, 1);
                boolean right = way >= 0 && way <= 12 && opacity >= 0 && opacity <= 255;
                CHECK.due("way(" + way + ", " + opacity + ")", x.way(way, opacity), right);
                x.line(0, 0, 0, 0, 0);
                // White on nothing: these ways let it be, the others make it what the OPACITY gives.
                boolean none = way == 0 || way == 2 || way == 5 || way == 6 || way == 8 || way == 9;
                int full = right ? none ? 0 : opacity : 255;
                CHECK.due("white by way(" + way + ", " + opacity + ")", x.dot(0, 0, 0), full * 0x01010101);
            }
        }
    }

    private static void clip() {
        CHECK.about("Promise 5: THE CLIP");
        DotBench x = Check.benchWith(6, 6);
        x.clip(0, 0, 1, 1);
        x.clip(4, 4, 5, 5);
        CHECK.due("the last told counts alone", x.flood(0, 5, 5, false), 4);
        x.clip(3, 3, 2, 2);
        x.clip(LEAST, LEAST, MOST, MOST);
        CHECK.due("also after an empty one", x.flood(0, 0, 0, false), 32);
        x.clip(2, 2, 2, 2);
        x.sheet(1, 3, 3);
        CHECK.due("it is for all SHEETS", x.flood(1, 2, 2, false), 1);
        x.dashes(0x0005);
        x.clip(0, 0, 9, 9);
        CHECK.due("the DASHES stay", x.line(0, 0, 0, 5, 0), 2);
    }

    private static void dashes() {
        CHECK.about("Promise 6: The sixteen lowest bits are the DASHES.");
        int[][] rows = {{0, 0}, {1, 1}, {0xFFFF, 16}, {0x10000, 0}, {-1, 16}, {LEAST, 0}, {MOST, 16}, {0x12340F0F, 8}};
        DotBench x = Check.benchWith(16, 1);
        for (int[] row : rows) {
            x.dashes(row[0]);
            CHECK.due("dashes(" + row[0] + ")", x.line(0, 0, 0, 15, 0), row[1]);
        }
        x.dashes(0);
        Check.rectangle(x, 0, 0, 256, 16, false);
        CHECK.due("they are for LINES alone: fill", x.fill(0, 1, false), 16);
        x.sheet(1, 7, 7);
        CHECK.due("circle", x.circle(1, 3, 3, 3), 16);
        CHECK.due("flood", x.flood(0, 0, 0, false), 16);
        CHECK.due("copy", x.copy(0, 0, 0, 16, 1, 0, 0, 0), 16);
    }

    private static void line() {
        CHECK.about("Promise 7: DOTS that were TOUCHED");
        DotBench x = Check.benchWith(4, 4);
        CHECK.due("all on the SHEET", x.line(0, 0, 0, 3, 1), 4);
        CHECK.due("in part", x.line(0, 2, 2, 9, 2), 2);
        CHECK.due("none", x.line(0, -5, -1, 9, -1), 0);
        CHECK.due("past a corner", x.line(0, -2, 1, 1, -2), 0);
        CHECK.due("its ends beyond, its middle on the SHEET", x.line(0, -2, 3, 3, -2), 2);
        x.clip(0, 0, 0, 3);
        CHECK.due("in THE CLIP", x.line(0, 0, 3, 3, 3), 1);
    }

    private static void circle() {
        CHECK.about("Promise 8: A CIRCLE, likewise");
        DotBench x = Check.benchWith(4, 4);
        CHECK.due("all on the SHEET", x.circle(0, 1, 1, 1), 4);
        CHECK.due("in part", x.circle(0, 0, 0, 3), 5);
        CHECK.due("round the SHEET", x.circle(0, 2, 2, 9), 0);
        CHECK.due("at the farthest places", x.circle(0, 2000, 2000, 0) + x.circle(0, -2000, -2000, 500), 0);
        x.clip(0, 0, 0, 3);
        CHECK.due("in THE CLIP", x.circle(0, 0, 1, 1), 2);
    }

    private static void point() {
        CHECK.about("Promise 9: A POINT comes behind THE PATH's others");
        DotBench x = Check.benchWith(4, 4);
        CHECK.due("a first", x.point(0, 0, true), 1);
        CHECK.due("a second", x.point(64, 0, false), 2);
        CHECK.due("a third", x.point(64, 32, false), 3);
        CHECK.due("a refused one that begins", x.point(4097, 0, true), -1);
        CHECK.due("a fourth of the same CONTOUR", x.point(0, 32, false), 4);
        CHECK.due("the upper half", x.fill(0, 0, false), 8);
        CHECK.due("a new CONTOUR", x.point(0, 48, true), 5);
        CHECK.due("its second", x.point(64, 48, false), 6);
        CHECK.due("a new CONTOUR right behind", x.point(0, 64, true), 7);
        CHECK.due("none of them has room", x.fill(0, 0, false), 8);
    }

    private static void clear() {
        CHECK.about("Promise 10: THE PATH has no POINTS.");
        DotBench x = Check.benchWith(4, 4);
        x.clear();
        CHECK.due("cleared while empty", x.fill(0, 1, false), 0);
        for (int i = 0; i < 48; i++) {
            x.point(64 * (i % 2), 64 * (i / 2 % 2), false);
        }
        x.corner(1, 4, 0, RED);
        x.corner(2, 4, 4, RED);
        x.clear();
        CHECK.due("nothing INSIDE", x.inside(48, 48, 1), 0);
        CHECK.due("nothing filled", x.fill(0, 1, true), 0);
        CHECK.due("the triangle stays", x.shade(0), 10);
        for (int i = 1; i <= 48; i++) {
            CHECK.due("48 come again", x.point(i, i, false), i);
        }
        CHECK.due("and no more", x.point(0, 0, false), -1);
        x.clear();
        x.clear();
        CHECK.due("from 1 again", x.point(0, 0, false), 1);
    }

    private static void fill() {
        CHECK.about("Promise 11: filled by a rule (0, 1), smoothed or not (it stays)");
        DotBench x = Check.benchWith(4, 4);
        x.sheet(3, 2, 2);
        Check.rectangle(x, 0, 0, 64, 32, false);
        for (int i = 0; i < 4; i++) {
            CHECK.due("time " + i, x.fill(0, i % 2, i > 1), 8);
            CHECK.due("on another SHEET", x.fill(3, i % 2, i > 1), 4);
        }
        CHECK.due("the next POINT", x.point(0, 0, true), 5);
        x.clear();
        CHECK.due("no PATH, rule 2", x.fill(0, 2, false), -1);
        CHECK.due("no PATH, rule 1", x.fill(0, 1, false), 0);
    }

    private static void corner() {
        CHECK.about("Promise 12: (At first all at 0 0 with INKS of 0.)");
        DotBench x = Check.benchWith(4, 4);
        x.flood(0, 0, 0, false);
        x.way(1, 255);
        x.corner(0, 4, 0, 0);
        x.corner(1, 4, 4, 0);
        CHECK.due("the third at 0 0", x.shade(0), 10);
        CHECK.due("of 0", x.count(0, 0), 10);
        x.sheet(0, 4, 4);
        x.corner(2, 0, 0, RED);
        CHECK.due("told anew", x.shade(0), 10);
        CHECK.due("near it: some RED", x.look(0, 7) > 0, true);
        CHECK.due("THE INK stays", x.line(0, 3, 3, 3, 3), 1);
        CHECK.due("white", x.dot(0, 3, 3), -1);
        x.corner(2, 4, 0, RED);
        CHECK.due("two corners at one place", x.shade(0), 0);
    }

    private static void shade() {
        CHECK.about("Promise 13: DOTS TOUCHED (0 if the area is 0); NONE: no such SHEET");
        DotBench x = new DotBench();
        CHECK.due("no SHEET, no area", x.shade(0), -1);
        x.sheet(0, 4, 4);
        CHECK.due("no area", x.shade(0), 0);
        CHECK.due("no area, no such SHEET", x.shade(4), -1);
        x.corner(1, 4, 0, RED);
        CHECK.due("two corners at 0 0", x.shade(0), 0);
        x.corner(2, 0, 4, RED);
        CHECK.due("an area", x.shade(0), 6);
        x.corner(0, 100, 100, RED);
        x.corner(1, 104, 100, RED);
        x.corner(2, 100, 104, RED);
        CHECK.due("off the SHEET", x.shade(0), 0);
        x.corner(0, -4, -4, RED);
        x.corner(1, 12, -4, RED);
        x.corner(2, -4, 12, RED);
        CHECK.due("beyond its sides", x.shade(0), 16);
        CHECK.due("all RED", x.count(0, RED), 16);
    }

    private static void flood() {
        CHECK.about("Promise 14: DOTS TOUCHED (0: it is not in THE CLIP); NONE: no such SHEET, DOT");
        DotBench x = Check.benchWith(4, 4);
        x.clip(2, 2, 9, 9);
        CHECK.due("not in THE CLIP", x.flood(0, 1, 3, true), 0);
        CHECK.due("in THE CLIP, no DOT", x.flood(0, 4, 4, true), -1);
        CHECK.due("not in THE CLIP, no DOT", x.flood(0, -1, 0, true), -1);
        CHECK.due("not in THE CLIP, no SHEET", x.flood(1, 0, 0, true), -1);
        CHECK.due("in THE CLIP", x.flood(0, 3, 3, false), 4);
        x.clip(1, 1, 0, 0);
        CHECK.due("an empty CLIP", x.flood(0, 3, 3, false), 0);
        CHECK.due("an empty CLIP, no DOT", x.flood(0, 4, 3, false), -1);
    }

    private static void copy() {
        CHECK.about("Promise 15: COPY from SHEET k to SHEET q: DOTS TOUCHED");
        DotBench x = Check.benchWith(4, 4);
        x.sheet(1, 2, 2);
        x.line(0, 0, 0, 3, 3);
        CHECK.due("onto a smaller one", x.copy(0, 0, 0, 4, 4, 1, 0, 0), 4);
        CHECK.due("its diagonal", x.count(1, -1), 2);
        CHECK.due("onto a greater one", x.copy(1, 0, 0, 4, 4, 0, 2, 0), 4);
        CHECK.due("at its place", x.dot(0, 3, 1), -1);
        CHECK.due("of nothing, though THE CLIP is all", x.copy(0, 0, 0, 0, 0, 1, 0, 0), 0);
        CHECK.due("of nothing, from no SHEET", x.copy(2, 0, 0, 0, 0, 1, 0, 0), -1);
        CHECK.due("of nothing, to no SHEET", x.copy(0, 0, 0, 0, 0, 2, 0, 0), -1);
    }

    private static void stretch() {
        CHECK.about("Promise 16: STRETCH likewise (w, h, W, H 1 to 64)");
        DotBench x = Check.benchWith(4, 4);
        x.sheet(1, 4, 4);
        x.line(0, 0, 0, 3, 3);
        CHECK.due("likewise", x.stretch(0, 0, 0, 4, 4, 1, 0, 0, 4, 4), 16);
        CHECK.due("a COPY", x.differ(0, 1), 0);
        x.way(0, 255);
        CHECK.due("by the WAY", x.stretch(0, 0, 0, 1, 1, 1, 1, 1, 64, 64), 9);
        CHECK.due("CLEAR", x.count(1, 0), 15);
        x.way(1, 128);
        x.clip(3, 3, 3, 3);
        CHECK.due("in THE CLIP", x.stretch(0, 0, 0, 1, 1, 1, 0, 0, 64, 64), 1);
        CHECK.due("by OPACITY", x.dot(1, 3, 3), 0x80808080);
    }

    private static void dot() {
        CHECK.about("Promise 17: The value of a DOT; 0 if there is none.");
        DotBench x = Check.benchWith(64, 64);
        x.flood(0, 0, 0, false);
        int[] beside = {LEAST, -65, -64, -1, 64, 65, 128, 4096, MOST};
        for (int off : beside) {
            for (int on : new int[] {0, 1, 63}) {
                CHECK.due("dot(0, " + off + ", " + on + ")", x.dot(0, off, on), 0);
                CHECK.due("dot(0, " + on + ", " + off + ")", x.dot(0, on, off), 0);
                CHECK.due("dot(0, " + on + ", 63)", x.dot(0, on, 63), -1);
            }
        }
        for (int k : new int[] {LEAST, -1, 1, 2, 3, 4, 256, MOST}) {
            CHECK.due("dot(" + k + ", 0, 0)", x.dot(k, 0, 0), 0);
        }
    }

    private static void count() {
        CHECK.about("Promise 18: How many DOTS of SHEET k have a value");
        DotBench x = Check.benchWith(8, 8);
        CHECK.due("all of 0", x.count(0, 0), 64);
        CHECK.due("none of what NONE is", x.count(0, -1), 0);
        x.flood(0, 0, 0, false);
        CHECK.due("all of white", x.count(0, -1), 64);
        CHECK.due("none of 0", x.count(0, 0), 0);
        CHECK.due("none of the least", x.count(0, LEAST), 0);
        CHECK.due("none of the greatest", x.count(0, MOST), 0);
        x.sheet(0, 2, 2);
        CHECK.due("a smaller one has no DOTS of the former", x.count(0, -1), 0);
        CHECK.due("a value no DOT can have", x.count(0, 0x00FFFFFF), 0);
    }

    private static void region() {
        CHECK.about("Promise 19: as FLOOD has it, but on the whole SHEET");
        DotBench x = Check.benchWith(8, 8);
        x.clip(3, 3, 4, 4);
        CHECK.due("beside THE CLIP", x.region(0, 0, 0, false), 64);
        CHECK.due("in THE CLIP", x.region(0, 3, 3, false), 64);
        CHECK.due("nothing is LAID", x.count(0, 0), 64);
        x.flood(0, 3, 3, false);
        CHECK.due("the four", x.region(0, 4, 4, false), 4);
        CHECK.due("all round them", x.region(0, 7, 7, false), 60);
        x.clip(1, 1, 0, 0);
        CHECK.due("an empty CLIP", x.region(0, 7, 7, true), 60);
    }

    private static void differ() {
        CHECK.about("Promise 20: In how many DOTS two SHEETS of the same sizes differ");
        DotBench x = Check.benchWith(64, 64);
        x.sheet(1, 64, 64);
        CHECK.due("none", x.differ(0, 1), 0);
        x.flood(1, 0, 0, false);
        CHECK.due("all", x.differ(0, 1), 4096);
        CHECK.due("a SHEET and itself", x.differ(1, 1), 0);
        x.flood(0, 0, 0, false);
        Check.putDot(x, 0, 63, 63, 0xFFFFFFFE);
        CHECK.due("the last one, by one", x.differ(1, 0), 1);
        CHECK.due("no such SHEET and itself", x.differ(2, 2), -1);
    }

    private static void look() {
        CHECK.about("Promise 21: Of the least box round all DOTS whose ALPHA is not 0");
        int[][] places = {{0, 0}, {63, 0}, {0, 63}, {63, 63}, {31, 32}};
        for (int[] place : places) {
            DotBench x = Check.benchWith(64, 64);
            Check.putDot(x, 0, place[0], place[1], 0x01000000);
            for (int what = 0; what < 4; what++) {
                CHECK.due("one DOT, " + what, x.look(0, what), place[what / 2]);
            }
        }
        DotBench x = Check.benchWith(64, 3);
        for (int what = 0; what < 4; what++) {
            CHECK.due("NONE: no such DOT, " + what, x.look(0, what), -1);
        }
        for (int what = 6; what < 10; what++) {
            CHECK.due("sums of nothing", x.look(0, what), 0);
        }
        x.flood(0, 0, 0, false);
        int[] all = {0, 63, 0, 2, 64, 3, 192 * 255, 192 * 255, 192 * 255, 192 * 255};
        for (int what = 0; what < 10; what++) {
            CHECK.due("all DOTS, " + what, x.look(0, what), all[what]);
        }
        for (int what : new int[] {LEAST, -1, 10, 11, 255, 256, MOST}) {
            CHECK.due("NONE for others, " + what, x.look(0, what), -1);
        }
        x.way(0, 255);
        x.flood(0, 0, 0, false);
        CHECK.due("no DOT any more", x.look(0, 3), -1);
        x.way(1, 255);
        for (int alpha = 1; alpha <= 255; alpha++) {
            Check.putDot(x, 0, 5, 1, alpha << 24);
            CHECK.due("an ALPHA of " + alpha, x.look(0, 0), 5);
        }
    }

    private static void inside() {
        CHECK.about("Promise 22: INSIDE THE PATH by a rule: 1, 0; NONE: no such rule");
        DotBench x = new DotBench();
        CHECK.due("an empty PATH", x.inside(0, 0, 0) + x.inside(0, 0, 1), 0);
        CHECK.due("an empty PATH, no such rule", x.inside(0, 0, 2), -1);
        Check.rectangle(x, 0, 0, 16, 16, false);
        Check.rectangle(x, 0, 0, 16, 16, false);
        CHECK.due("twice, rule 0", x.inside(0, 0, 0), 0);
        CHECK.due("twice, rule 1: it is 1, not 2", x.inside(0, 0, 1), 1);
        int[] ends = {LEAST, LEAST + 1, MOST - 1, MOST};
        for (int u : ends) {
            for (int v : ends) {
                CHECK.due("far away", x.inside(u, v, 0) + x.inside(u, v, 1), 0);
            }
            CHECK.due("far along x", x.inside(u, 5, 0) + x.inside(u, 5, 1), 0);
            CHECK.due("far along y", x.inside(5, u, 0) + x.inside(5, u, 1), 0);
        }
    }

    private static void the512thCall() {
        CHECK.about("An object is used for at most 512 calls after it has been made");
        DotBench x = Check.benchWith(64, 64);
        x.way(12, 255);
        x.ink(0x01000000);
        for (int call = 3; call < 250; call++) {
            CHECK.due("flood, call " + call, x.flood(0, 63, 0, false), 4096);
        }
        for (int call = 250; call < 511; call++) {
            CHECK.due("copy, call " + call, x.copy(0, 0, 0, 64, 64, 0, 64, 64), 0);
        }
        CHECK.due("the 512th", x.dot(0, 0, 63), 247 << 24);
        DotBench y = new DotBench();
        for (int call = 0; call < 511; call++) {
            CHECK.due("sheet, call " + call, y.sheet(call % 4, 1 + call % 64, 64 - call % 64), true);
        }
        CHECK.due("the 512th", y.count(2, 0), 63 * 2);
    }
}
