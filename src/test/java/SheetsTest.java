/** Promises 1 to 5. */
public final class SheetsTest {
    public static void main(String[] args) {
        newObject();
        sheet();
        set();
        copy();
        drop();
        Check.finish();
    }

    private static void newObject() {
        GrainWaves g = new GrainWaves();
        for (int what = 0; what < 8; what++) {
            Check.due("new: count(" + what + ")", g.count(what), 0);
        }
        Check.status(g, "new", 0);
        Check.due("new: fault", g.fault(), 0);
        Check.due("new: trace(0)", g.trace(0), Check.NONE);
        for (int s = 0; s < 8; s++) {
            Check.due("new: drop(" + s + ")", g.drop(s), Check.NULL);
        }
        for (int w = 0; w < 8; w++) {
            Check.due("new: bright(" + w + ")", g.bright(w, Check.NONE), 0);
        }
        for (int p = 0; p < 6; p++) {
            Check.due("new: kind(" + p + ")", g.kind(p), Check.NULL);
        }
    }

    private static void sheet() {
        GrainWaves g = new GrainWaves();
        Check.due("sheet(7, 2, 64)", g.sheet(7, 2, 64), 64);
        Check.due("sheet(0, 0, 0)", g.sheet(0, 0, 0), 0);
        Check.due("count(0)", g.count(0), 2);
        Check.due("sheet(8, 0, 1)", g.sheet(8, 0, 1), Check.BAD);
        Check.due("sheet(-1, 0, 1)", g.sheet(-1, 0, 1), Check.BAD);
        Check.due("sheet(0, 3, 1)", g.sheet(0, 3, 1), Check.BAD);
        Check.due("sheet(0, -1, 1)", g.sheet(0, -1, 1), Check.BAD);
        Check.due("sheet(0, 0, 65)", g.sheet(0, 0, 65), Check.BAD);
        Check.due("sheet(0, 3, -1)", g.sheet(0, 3, -1), Check.BAD);
        Check.due("sheet(7, 2, -1)", g.sheet(7, 2, -1), Check.SIZE);
        Check.status(g, "SIZE", 4);
        Check.due("found, nothing changed: set(7, 63, 9)", g.set(7, 63, 9), 9);
        Check.due("sheet(7, 2, 64) anew", g.sheet(7, 2, 64), 64);
        g.sheet(6, 2, 64);
        g.copy(7, 32, 6, 0, 32);
        Check.due("lay", g.lay(0, 6, 0), 1);
        Check.due("ITEMS are 0 in the new one", g.bright(0, Check.NONE), 0);
    }

    private static void set() {
        GrainWaves g = new GrainWaves();
        g.sheet(0, 0, 3);
        g.sheet(1, 1, 3);
        g.sheet(2, 2, 3);
        Check.due("byte 127", g.set(0, 0, 127), 127);
        Check.due("byte 128", g.set(0, 0, 128), -128);
        Check.due("byte 511", g.set(0, 2, 511), -1);
        Check.due("byte -129", g.set(0, 2, -129), 127);
        Check.due("short 32768", g.set(1, 2, 32768), -32768);
        Check.due("short 65537", g.set(1, 2, 65537), 1);
        Check.due("int", g.set(2, 2, Integer.MIN_VALUE), Integer.MIN_VALUE);
        Check.due("set(8, 0, 0)", g.set(8, 0, 0), Check.BAD);
        Check.due("set(-1, 0, 0)", g.set(-1, 0, 0), Check.BAD);
        Check.due("set(3, -1, 0)", g.set(3, -1, 0), Check.NULL);
        Check.status(g, "NULL", 1);
        Check.due("set(0, 3, 0)", g.set(0, 3, 0), Check.PLACE);
        Check.status(g, "PLACE", 2);
        Check.due("set(0, -1, 0)", g.set(0, -1, 0), Check.PLACE);
        Check.due("set(8, 3, 0)", g.set(8, 3, 0), Check.BAD);
        Check.status(g, "BAD keeps it", 2);
        Check.due("set(0, 1, 5)", g.set(0, 1, 5), 5);
        Check.status(g, "none", 0);
    }

    private static void copy() {
        GrainWaves g = new GrainWaves();
        g.sheet(0, 2, 64);
        for (int k = 0; k < 64; k++) {
            g.set(0, k, 100 + k);
        }
        Check.due("copy within, forward", g.copy(0, 0, 0, 1, 33), 33);
        g.lay(0, 0, 0);
        Check.number(g, 0, 0, 100, 100);
        Check.number(g, 0, 1, 101, 102);
        Check.number(g, 0, 15, 129, 130);
        Check.due("copy within, back", g.copy(0, 2, 0, 0, 62), 62);
        g.lay(0, 0, 0);
        Check.number(g, 0, 0, 101, 102);
        Check.number(g, 0, 15, 131, 132);
        g.sheet(1, 2, 2);
        Check.due("copy to another", g.copy(0, 63, 1, 1, 1), 1);
        Check.due("copy back", g.copy(1, 0, 0, 0, 2), 2);
        g.lay(0, 0, 0);
        Check.number(g, 0, 0, 0, 163);
        g.drop(5);
        Check.due("none at the ends", g.copy(0, 64, 1, 2, 0), 0);
        Check.status(g, "copy", 0);
        copyRefused(g);
    }

    private static void copyRefused(GrainWaves g) {
        Check.due("a", g.copy(8, 0, 1, 0, 0), Check.BAD);
        Check.due("b", g.copy(0, 0, -1, 0, 0), Check.BAD);
        Check.due("a missing", g.copy(5, -1, 0, 0, 0), Check.NULL);
        Check.due("b missing", g.copy(0, 0, 5, -1, 0), Check.NULL);
        g.sheet(2, 1, 2);
        Check.due("STORE ahead of PLACE", g.copy(0, -1, 2, 0, 1), Check.STORE);
        Check.status(g, "STORE", 5);
        Check.due("i below 0", g.copy(0, -1, 1, 0, 1), Check.PLACE);
        Check.due("j below 0", g.copy(0, 0, 1, -1, 1), Check.PLACE);
        Check.due("n below 0", g.copy(0, 1, 1, 1, -1), Check.PLACE);
        Check.due("beyond a", g.copy(0, 63, 1, 0, 2), Check.PLACE);
        Check.due("beyond b", g.copy(0, 0, 1, 1, 2), Check.PLACE);
        Check.due("i beyond the end, none", g.copy(0, 65, 1, 0, 0), Check.PLACE);
        Check.due("j beyond the end, none", g.copy(0, 0, 1, 3, 0), Check.PLACE);
        Check.due("great", g.copy(0, 1, 1, 1, Integer.MAX_VALUE), Check.PLACE);
        Check.due("great i", g.copy(0, Integer.MAX_VALUE, 1, 1, 1), Check.PLACE);
    }

    private static void drop() {
        GrainWaves g = new GrainWaves();
        g.sheet(4, 1, 9);
        Check.due("drop(5)", g.drop(5), Check.NULL);
        Check.due("drop(4)", g.drop(4), 9);
        Check.status(g, "drop", 0);
        Check.due("drop(4) again", g.drop(4), Check.NULL);
        Check.status(g, "drop again", 1);
        Check.due("drop(8)", g.drop(8), Check.BAD);
        Check.due("drop(-1)", g.drop(-1), Check.BAD);
        Check.due("set of the dropped", g.set(4, 0, 0), Check.NULL);
        Check.due("count(0)", g.count(0), 0);
        g.sheet(4, 1, 0);
        Check.due("drop of an empty one", g.drop(4), 0);
    }
}
