/** All that can be seen of an object, in looks that each want an object of their own: an object is good for 512 calls. */
final class Looks {
    static final int WAVES = 0, PLATES = 1, TAPE = 2, TRACE = 3, SHEETS = 4, ALL = 12;
    /** The dearest look's calls. */
    static final int MOST_CALLS = 266;

    private final GrainWaves g;
    private final long[] seen = new long[MOST_CALLS];
    private int n = 0;

    private Looks(GrainWaves g) {
        this.g = g;
    }

    static String nameOf(int which) {
        return which < SHEETS ? new String[] {"the waves", "the plates", "the tape", "the trace"}[which]
            : "sheet " + (which - SHEETS);
    }

    static long[] look(GrainWaves g, int which) {
        Looks looks = new Looks(g);
        switch (which) {
            case WAVES -> looks.waves();
            case PLATES -> looks.plates();
            case TAPE -> looks.tape();
            case TRACE -> looks.trace();
            default -> looks.sheet(which - SHEETS);
        }
        return looks.seen;
    }

    private long see(long answer) {
        seen[n] = answer;
        n++;
        return answer;
    }

    private void waves() {
        see(g.fault());
        for (int what = 0; what < 8; what++) {
            see(g.count(what));
        }
        for (int k = 0; k < 256; k++) {
            see(g.part(k / 32, k / 2 % 16, k % 2));
        }
    }

    private void plates() {
        for (int p = 0; p < 6; p++) {
            for (int place = -1; place < 16; place++) {
                see(g.grain(p, place));
            }
        }
    }

    private void tape() {
        see(g.count(7));
        see(g.run());
        see(g.fault());
        for (int k = 0; k < 128; k++) {
            see(g.bright(k / 16, k % 16));
        }
    }

    private void trace() {
        for (int i = -1; i < 17; i++) {
            see(g.trace(i));
        }
    }

    /** The ITEMS come one by one to a sheet of the same LANE that is long enough to be laid. */
    private void sheet(int s) {
        int spare = (s + 1) % 8;
        for (int lane = 0; lane < 3; lane++) {
            g.sheet(spare, lane, 64);
            if (see(g.copy(s, 0, spare, 0, 0)) == 0) {
                for (int k = 0; k < 64; k++) {
                    see(g.copy(s, k, spare, k, 1));
                }
                layHalf(spare, 0);
                layHalf(spare, 32);
            }
        }
        see(g.drop(s));
    }

    private void layHalf(int sheet, int from) {
        see(g.lay(0, sheet, from));
        for (int k = 0; k < 32; k++) {
            see(g.part(0, k / 2, k % 2));
        }
    }
}
