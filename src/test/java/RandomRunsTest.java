import java.util.Random;

/** Every promise: runs of calls drawn from a seed, each call's answer and every DOT held against PlainBench. */
public final class RandomRunsTest {
    private static final Check CHECK = new Check();
    private static final int RUNS = 1000;
    // Together with the reads these stay within the 512 calls that an object is promised for.
    private static final int CALLS = 252;
    private static final int READS = 260;
    private static final int[] EXTREMES = {Integer.MIN_VALUE, Integer.MAX_VALUE, -4097, 4097, -2001, 2001, -201, 201,
        -1, 13, 48, 49, 64, 65, 255, 256, 500, 501, 4096, -4096, 2000, -2000};

    private final Random random;
    private final DotBench bench = new DotBench();
    private final PlainBench plain = new PlainBench();
    private final int reach;
    private final boolean wild;

    private RandomRunsTest(int seed) {
        random = new Random(seed);
        reach = seed % 10 == 0 ? 64 : 3 + random.nextInt(14);
        wild = seed % 3 == 0;
    }

    public static void main(String[] args) {
        for (int seed = 0; seed < RUNS; seed++) {
            new RandomRunsTest(seed).run(seed);
        }
        CHECK.end();
    }

    private void run(int seed) {
        for (int call = 0; call < CALLS; call++) {
            step("run " + seed + " call " + call + " ");
        }
        for (int read = 0; read < READS; read++) {
            int k = read % 2;
            int x = random.nextInt(reach);
            int y = random.nextInt(reach);
            CHECK.due("run " + seed + " dot(" + k + ", " + x + ", " + y + ")", bench.dot(k, x, y), plain.dot(k, x, y));
        }
    }

    private boolean strange() {
        return wild && random.nextInt(40) == 0;
    }

    private int extreme() {
        return EXTREMES[random.nextInt(EXTREMES.length)];
    }

    private int below(int n) {
        return strange() ? extreme() : random.nextInt(n);
    }

    private int k() {
        return strange() ? extreme() : random.nextInt(random.nextInt(8) == 0 ? 5 : 2);
    }

    /** A coordinate on the SHEET or near it. */
    private int near() {
        return strange() ? extreme() : random.nextInt(reach + 8) - 4;
    }

    private int far(int most) {
        return random.nextInt(5) == 0 ? random.nextInt(2 * most + 1) - most : near();
    }

    /** In sixteenths; of a grid, so that many EDGES go through centres and samples. */
    private int pathPlace(int grid) {
        return random.nextInt(6) == 0 ? far(4096) : (near() * 16 + random.nextInt(16)) / grid * grid;
    }

    private int side() {
        return strange() ? extreme() : 1 + random.nextInt(reach);
    }

    private int colour() {
        int[] alphas = {0, 255, 255, 128, random.nextInt(256)};
        return alphas[random.nextInt(alphas.length)] << 24 | random.nextInt(1 << 24);
    }

    private void step(String name) {
        int kind = random.nextInt(24);
        if (kind < 9) {
            settings(name, kind);
        } else if (kind < 18) {
            drawing(name, kind);
        } else {
            asking(name, kind);
        }
    }

    private void settings(String name, int kind) {
        switch (kind) {
            case 0 -> {
                int k = k();
                int w = side();
                int h = side();
                if (random.nextInt(4) == 0) {
                    CHECK.due(name + "sheet", bench.sheet(k, w, h), plain.sheet(k, w, h));
                }
            }
            case 1 -> {
                int colour = colour();
                bench.ink(colour);
                plain.ink(colour);
            }
            case 2 -> {
                int way = below(14);
                int opacity = random.nextInt(2) == 0 ? 255 : below(257);
                CHECK.due(name + "way", bench.way(way, opacity), plain.way(way, opacity));
            }
            case 3 -> {
                boolean all = random.nextInt(2) == 0;
                int[] c = {all ? 0 : near(), all ? 0 : near(), all ? 64 : near() + 5, all ? 64 : near() + 5};
                bench.clip(c[0], c[1], c[2], c[3]);
                plain.clip(c[0], c[1], c[2], c[3]);
            }
            case 4 -> {
                int bits = random.nextInt(2) == 0 ? -1 : random.nextInt();
                bench.dashes(bits);
                plain.dashes(bits);
            }
            case 5 -> {
                if (random.nextInt(8) == 0) {
                    bench.clear();
                    plain.clear();
                }
            }
            case 6 -> {
                int i = below(3);
                int x = far(200);
                int y = far(200);
                int colour = colour();
                CHECK.due(name + "corner", bench.corner(i, x, y, colour), plain.corner(i, x, y, colour));
            }
            default -> {
                int grid = random.nextInt(3) == 0 ? 8 : random.nextInt(2) + 1;
                int x = pathPlace(grid);
                int y = pathPlace(grid);
                boolean begins = random.nextInt(6) == 0;
                CHECK.due(name + "point", bench.point(x, y, begins), plain.point(x, y, begins));
            }
        }
    }

    private void drawing(String name, int kind) {
        int k = k();
        int x = near();
        int y = near();
        switch (kind) {
            case 9, 10 -> {
                int[] c = {far(2000), far(2000), far(2000), far(2000)};
                CHECK.due(name + "line", bench.line(k, c[0], c[1], c[2], c[3]), plain.line(k, c[0], c[1], c[2], c[3]));
            }
            case 11 -> {
                int r = random.nextInt(4) == 0 ? below(501) : below(reach);
                int cx = random.nextInt(4) == 0 ? x + r : x;
                CHECK.due(name + "circle", bench.circle(k, cx, y, r), plain.circle(k, cx, y, r));
            }
            case 12, 13 -> {
                int rule = below(2);
                boolean smooth = random.nextBoolean();
                CHECK.due(name + "fill", bench.fill(k, rule, smooth), plain.fill(k, rule, smooth));
            }
            case 14 -> CHECK.due(name + "shade", bench.shade(k), plain.shade(k));
            case 15 -> {
                boolean corners = random.nextBoolean();
                CHECK.due(name + "flood", bench.flood(k, x, y, corners), plain.flood(k, x, y, corners));
            }
            case 16 -> {
                int[] c = {side() - 1, side() - 1, k(), near(), near()};
                CHECK.due(name + "copy", bench.copy(k, x, y, c[0], c[1], c[2], c[3], c[4]),
                        plain.copy(k, x, y, c[0], c[1], c[2], c[3], c[4]));
            }
            default -> {
                int[] c = {side(), side(), k(), near(), near(), side(), side()};
                CHECK.due(name + "stretch", bench.stretch(k, x, y, c[0], c[1], c[2], c[3], c[4], c[5], c[6]),
                        plain.stretch(k, x, y, c[0], c[1], c[2], c[3], c[4], c[5], c[6]));
            }
        }
    }

    private void asking(String name, int kind) {
        int k = k();
        int x = near();
        int y = near();
        switch (kind) {
            case 18 -> CHECK.due(name + "dot", bench.dot(k, x, y), plain.dot(k, x, y));
            case 19 -> {
                int value = random.nextInt(3) == 0 ? 0 : plain.dot(k, x, y);
                CHECK.due(name + "count", bench.count(k, value), plain.count(k, value));
            }
            case 20 -> {
                boolean corners = random.nextBoolean();
                CHECK.due(name + "region", bench.region(k, x, y, corners), plain.region(k, x, y, corners));
            }
            case 21 -> {
                int q = k();
                CHECK.due(name + "differ", bench.differ(k, q), plain.differ(k, q));
            }
            case 22 -> {
                int what = below(12) - 1;
                CHECK.due(name + "look", bench.look(k, what), plain.look(k, what));
            }
            default -> {
                int u = strange() ? extreme() : near() * 32 + random.nextInt(32);
                int v = strange() ? extreme() : near() * 32 + random.nextInt(32);
                int rule = below(3);
                CHECK.due(name + "inside", bench.inside(u, v, rule), plain.inside(u, v, rule));
            }
        }
    }
}
