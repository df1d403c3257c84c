/** Promises 21 to 23, the answers beside those of trying all. */
public final class SearchesTest {
    private static final int[] RE = {1, 0, -1, 0};
    private static final int[] IM = {0, 1, 0, -1};

    public static void main(String[] args) {
        fitsOfEveryRow();
        fitsRefused();
        marks();
        marksRefused();
        aims();
        aimRefused();
        Check.finish();
    }

    private static int nearOf(int row) {
        int[] codes = {row / 125, row / 25 % 5, row / 5 % 5, row % 5};
        int near = 0;
        for (int x = 0; x < 4; x++) {
            near |= codes[x] == 0 ? 0 : 1 << x;
        }
        return near;
    }

    private static int farOf(int row, int u) {
        int[] codes = {row / 125, row / 25 % 5, row / 5 % 5, row % 5};
        int re = 0;
        int im = 0;
        for (int x = 0; x < 4; x++) {
            if (codes[x] > 0) {
                re += RE[(codes[x] - 1 + u * x) % 4];
                im += IM[(codes[x] - 1 + u * x) % 4];
            }
        }
        return re * re + im * im;
    }

    private static boolean alike(int row, int other) {
        for (int u = 0; u < 4; u++) {
            if (farOf(row, u) != farOf(other, u)) {
                return false;
            }
        }
        return nearOf(row) == nearOf(other);
    }

    private static void fitsOfEveryRow() {
        for (int row = 0; row < 625; row++) {
            GrainWaves g = new GrainWaves();
            g.sheet(3, row % 3, 7);
            for (int u = 0; u < 4; u++) {
                g.set(3, 3 + u, farOf(row, u));
            }
            int near = nearOf(row);
            int n = 0;
            g.drop(0);
            for (int other = 0; other < 625; other++) {
                if (alike(row, other)) {
                    Check.due("fits of row " + row + ", number " + n, g.fits(near, 3, 3, n), other);
                    n++;
                }
            }
            Check.due("fits of row " + row + ", one more", g.fits(near, 3, 3, n), Check.NONE);
            Check.due("how many fit row " + row, g.fits(near, 3, 3, -1), n);
            Check.due("up to LIKES " + row, g.fits(near, 3, 3, -2), row == 0 ? 1 : n / 4);
            Check.status(g, "fits", 0);
        }
    }

    private static void fitsRefused() {
        GrainWaves g = new GrainWaves();
        g.sheet(0, 2, 5);
        Check.due("fits(16)", g.fits(16, 0, 0, 0), Check.BAD);
        Check.due("fits(-1)", g.fits(-1, 0, 0, 0), Check.BAD);
        Check.due("fits, sheet 8", g.fits(0, 8, 0, 0), Check.BAD);
        Check.due("fits, sheet -1", g.fits(0, -1, 0, 0), Check.BAD);
        Check.due("fits, k -3", g.fits(0, 1, 0, -3), Check.BAD);
        Check.due("fits, missing", g.fits(0, 1, -1, 0), Check.NULL);
        Check.status(g, "NULL", 1);
        Check.due("fits at -1", g.fits(0, 0, -1, 0), Check.PLACE);
        Check.status(g, "PLACE", 2);
        Check.due("fits at 2", g.fits(0, 0, 2, 0), Check.PLACE);
        Check.due("fits at a great place", g.fits(0, 0, Integer.MAX_VALUE, 0), Check.PLACE);
        Check.due("fits at 1", g.fits(0, 0, 1, 0), 0);
        Check.due("fits, a great k", g.fits(0, 0, 1, Integer.MAX_VALUE), Check.NONE);
        g.set(0, 1, -1);
        Check.due("fits, below 0", g.fits(0, 0, 1, -1), 0);
        g.set(0, 1, Integer.MAX_VALUE);
        Check.due("fits, far above", g.fits(15, 0, 1, -1), 0);
    }

    private static int sumOf(int[] grains, int mark) {
        int sum = 0;
        for (int k = 0; k < 16; k++) {
            sum += (mark >> k & 1) == 1 ? grains[k] : -grains[k];
        }
        return sum;
    }

    private static int falseOf(int[] grains, int mark) {
        int n = 0;
        for (int other = 0; other < 65536; other++) {
            n += sumOf(grains, other) >= sumOf(grains, mark) ? 1 : 0;
        }
        return n;
    }

    private static void marks() {
        for (int trial = 0; trial < 12; trial++) {
            GrainWaves g = new GrainWaves();
            g.sheet(0, 2, 32);
            for (int k = 0; k < 16; k++) {
                g.set(0, 2 * k, (k * 7 + trial * trial) % (trial + 5));
            }
            g.lay(0, 0, 0);
            g.take(2, 0, 1, 1 + trial % 2);
            for (int k = 0; k < trial; k++) {
                g.lose(2, (5 * k + trial) % 16);
            }
            int[] grains = new int[16];
            for (int k = 0; k < 16; k++) {
                grains[k] = Math.max(0, g.grain(2, k));
            }
            int[] tried = {0, 1, 65535, 43690, 1000 + 77 * trial, 32768};
            for (int mark : tried) {
                Check.due("sum of " + mark, g.mark(2, mark, 0), sumOf(grains, mark));
                Check.due("false of " + mark, g.mark(2, mark, 1), falseOf(grains, mark));
            }
            g.drop(1);
            g.mark(2, 0, trial % 2);
            Check.status(g, "mark", 0);
        }
    }

    private static void marksRefused() {
        GrainWaves g = new GrainWaves();
        Check.due("mark(6, 0, 0)", g.mark(6, 0, 0), Check.BAD);
        Check.due("mark(-1, 0, 0)", g.mark(-1, 0, 0), Check.BAD);
        Check.due("mark(0, 65536, 0)", g.mark(0, 65536, 0), Check.BAD);
        Check.due("mark(0, -1, 0)", g.mark(0, -1, 0), Check.BAD);
        Check.due("mark(0, 0, 2)", g.mark(0, 0, 2), Check.BAD);
        Check.due("mark(0, 0, -1)", g.mark(0, 0, -1), Check.BAD);
        Check.due("mark(0, 0, 1)", g.mark(0, 0, 1), Check.NULL);
        Check.status(g, "NULL", 1);
    }

    private static int sentBy(int set, int lean, int slope) {
        int re = 0;
        int im = 0;
        for (int k = 0; k < 16; k++) {
            if ((set >> k & 1) == 1) {
                int turn = (lean * (k % 4) + slope * (k / 4)) % 4;
                re += RE[turn];
                im += IM[turn];
            }
        }
        return re * re + im * im;
    }

    private static void aims() {
        for (int lean = 0; lean < 4; lean++) {
            for (int slope = 0; slope < 4; slope++) {
                int most = -1;
                int least = 0;
                for (int set = 0; set < 65536; set++) {
                    int sent = sentBy(set, lean, slope);
                    if (sent > most) {
                        most = sent;
                        least = set;
                    }
                }
                aimsOf(lean, slope, most, least);
            }
        }
    }

    private static void aimsOf(int lean, int slope, int most, int least) {
        GrainWaves g = new GrainWaves();
        for (int p = 0; p < 4; p++) {
            for (int q = 0; q < 4; q++) {
                int u = (lean - p + 4) % 4;
                int v = (slope - q + 4) % 4;
                Check.due("aim " + p + q + u + v, g.aim(p, q, u, v, 0), most);
                Check.due("aim set " + p + q + u + v, g.aim(p, q, u, v, 1), least);
            }
        }
    }

    private static void aimRefused() {
        GrainWaves g = new GrainWaves();
        g.drop(0);
        for (int wrong = -1; wrong <= 4; wrong += 5) {
            Check.due("aim, p", g.aim(wrong, 0, 0, 0, 0), Check.BAD);
            Check.due("aim, q", g.aim(0, wrong, 0, 0, 0), Check.BAD);
            Check.due("aim, u", g.aim(0, 0, wrong, 0, 0), Check.BAD);
            Check.due("aim, v", g.aim(0, 0, 0, wrong, 0), Check.BAD);
        }
        Check.due("aim, what 2", g.aim(0, 0, 0, 0, 2), Check.BAD);
        Check.due("aim, what -1", g.aim(0, 0, 0, 0, -1), Check.BAD);
        g.aim(0, 0, 0, 0, 0);
        Check.status(g, "aim keeps it", 1);
    }
}
