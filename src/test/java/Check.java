/** What every test of the project counts its answers with. */
final class Check {
    private int wrong = 0;
    private int asked = 0;
    private String sentence = "";

    /** The document's sentence that the answers from here on are held against. */
    void about(String words) {
        sentence = "\"" + words + "\": ";
    }

    void due(String call, long got, long want) {
        asked++;
        if (got != want) {
            wrong++;
            System.out.println(sentence + call + " answered " + got + ", due is " + want);
        }
    }

    void due(String call, boolean got, boolean want) {
        due(call, got ? 1 : 0, want ? 1 : 0);
    }

    /** The DOTS of SHEET k against a drawing: one text a row, '#' for a DOT that is not 0, '.' for one that is. */
    void drawing(String call, DotBench bench, int k, String... rows) {
        for (int y = 0; y < rows.length; y++) {
            StringBuilder got = new StringBuilder();
            for (int x = 0; x < rows[y].length(); x++) {
                got.append(bench.dot(k, x, y) != 0 ? '#' : '.');
            }
            asked++;
            if (!got.toString().equals(rows[y])) {
                wrong++;
                System.out.println(sentence + call + " drew row " + y + " as " + got + ", due is " + rows[y]);
            }
        }
    }

    void end() {
        System.out.println(asked + " answers, " + (wrong == 0 ? "all as due" : wrong + " of them not as due"));
        if (wrong != 0) {
            System.exit(1);
        }
    }

    static DotBench benchWith(int w, int h) {
        DotBench bench = new DotBench();
        bench.sheet(0, w, h);
        return bench;
    }

    /** A CONTOUR of a rectangle in sixteenths, turning one way or the other. */
    static void rectangle(DotBench bench, int x0, int y0, int x1, int y1, boolean turned) {
        bench.point(x0, y0, true);
        bench.point(turned ? x0 : x1, turned ? y1 : y0, false);
        bench.point(x1, y1, false);
        bench.point(turned ? x1 : x0, turned ? y0 : y1, false);
    }

    /** A single DOT, LAID with the INK of a colour, which stays the bench's INK. */
    static void putDot(DotBench bench, int k, int x, int y, int colour) {
        bench.ink(colour);
        bench.line(k, x, y, x, y);
    }
}
