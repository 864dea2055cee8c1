/** The example of README.md, with the answers that it tells. */
public final class ReadmeTest {
    public static void main(String[] args) {
        Check check = new Check();
        DotBench bench = new DotBench();
        check.due("sheet(0, 16, 16)", bench.sheet(0, 16, 16), true);
        bench.ink(0x80FF0000);
        check.due("line(0, 0, 0, 15, 7)", bench.line(0, 0, 0, 15, 7), 16);
        check.due("dot(0, 6, 3) on the line", bench.dot(0, 6, 3), 0x80800000);
        check.due("point(32, 32, true)", bench.point(32, 32, true), 1);
        check.due("point(160, 32, false)", bench.point(160, 32, false), 2);
        check.due("point(96, 200, false)", bench.point(96, 200, false), 3);
        check.due("inside(200, 200, 1)", bench.inside(200, 200, 1), 1);
        check.due("fill(0, 1, true)", bench.fill(0, 1, true), 54);
        check.due("dot(0, 6, 3) on line and path", bench.dot(0, 6, 3), 0xC0C00000);
        check.due("sheet(1, 8, 8)", bench.sheet(1, 8, 8), true);
        check.due("way(1, 255)", bench.way(1, 255), true);
        check.due("stretch", bench.stretch(0, 0, 0, 16, 16, 1, 0, 0, 8, 8), 64);
        check.due("look(1, 1)", bench.look(1, 1), 6);
        check.due("line(3, 0, 0, 1, 1)", bench.line(3, 0, 0, 1, 1), DotBench.NONE);
        check.end();
    }
}
