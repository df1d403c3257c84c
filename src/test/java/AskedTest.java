/** Promises 24 to 29. */
public final class AskedTest {
    public static void main(String[] args) {
        fully();
        clear();
        torn();
        blind();
        refused();
        counts();
        status();
        Check.finish();
    }

    private static GrainWaves withPlate(String text, int step) {
        GrainWaves g = new GrainWaves();
        Check.run(g, text);
        g.take(0, 0, 1, step);
        return g;
    }

    private static void traced(GrainWaves g, int what, int want, int... bodies) {
        Check.due("ask(0, " + what + ")", g.ask(0, what), want);
        Check.status(g, "ask", 0);
        for (int k = 0; k < bodies.length; k++) {
            Check.due("ask " + what + ", trace(" + k + ")", g.trace(k), bodies[k]);
        }
        Check.due("ask " + what + ", trace ends", g.trace(bodies.length), Check.NONE);
        Check.due("trace(-1)", g.trace(-1), Check.NONE);
        Check.due("trace(16)", g.trace(16), Check.NONE);
    }

    private static void kinds(GrainWaves g, int told, int step, boolean... taken) {
        Check.due("kind(0)", g.kind(0), told);
        for (int kind = 0; kind < 5; kind++) {
            Check.due("as(0, " + kind + ")", g.as(0, kind), taken[kind] ? step : Check.KIND);
            Check.status(g, "as", taken[kind] ? 0 : 3);
        }
        Check.due("as(0, 5)", g.as(0, 5), Check.BAD);
        Check.due("as(0, -1)", g.as(0, -1), Check.BAD);
    }

    private static void fully() {
        GrainWaves g = withPlate("point 0 0 0 6 0;point 0 3 3 5 1;", 7);
        kinds(g, 2, 7, true, true, true, false, false);
        traced(g, 0, 2 * (5 + 3 + 7), 12, 11, 10);
        traced(g, 1, 5 + 1000 + 30, 22, 21, 20, 12, 11, 10);
        GrainWaves dark = withPlate("", 1);
        traced(dark, 0, 2, 12, 11, 10);
        traced(dark, 1, 1002, 22, 21, 20, 12, 11, 10);
    }

    private static void clear() {
        GrainWaves g = withPlate("point 0 0 0 16 0;point 0 3 3 5 1;", 1);
        kinds(g, 1, 1, true, true, false, false, false);
        traced(g, 0, 255 + 25 + 1, 11, 10);
        traced(g, 1, 1255, 21, 20);
    }

    private static void torn() {
        GrainWaves g = withPlate("point 0 0 0 16 0;point 0 3 3 5 1;", 1);
        g.lose(0, 0);
        kinds(g, 3, 1, true, false, false, true, false);
        traced(g, 0, 25 - 1, 13, 10, 23);
        for (int k = 1; k < 7; k++) {
            g.lose(0, k);
        }
        kinds(g, 3, 1, true, false, false, true, false);
        traced(g, 1, 7, 23);
    }

    private static void blind() {
        GrainWaves g = withPlate("point 0 0 0 16 0;point 0 3 3 5 1;", 2);
        for (int k = 0; k < 8; k++) {
            g.lose(0, k);
        }
        kinds(g, 4, 2, true, false, false, true, true);
        traced(g, 0, 12 - 8 + 1000, 14, 13, 10, 23);
        traced(g, 1, 8, 23);
        for (int k = 8; k < 16; k++) {
            g.lose(0, k);
        }
        traced(g, 0, 984, 14, 13, 10, 23);
        g.take(0, 0, 1, 2);
        kinds(g, 2, 2, true, true, true, false, false);
    }

    private static void refused() {
        GrainWaves g = withPlate("", 1);
        Check.due("kind(6)", g.kind(6), Check.BAD);
        Check.due("kind(-1)", g.kind(-1), Check.BAD);
        Check.due("kind(1)", g.kind(1), Check.NULL);
        Check.due("as(6, 0)", g.as(6, 0), Check.BAD);
        Check.due("as(1, 5)", g.as(1, 5), Check.BAD);
        Check.due("as(1, 4)", g.as(1, 4), Check.NULL);
        Check.status(g, "as of a missing one", 1);
        g.ask(0, 0);
        Check.due("ask(6, 0)", g.ask(6, 0), Check.BAD);
        Check.due("ask(-1, 0)", g.ask(-1, 0), Check.BAD);
        Check.due("ask(1, 2)", g.ask(1, 2), Check.BAD);
        Check.due("ask(0, -1)", g.ask(0, -1), Check.BAD);
        Check.due("BAD keeps the trace", g.trace(0), 12);
        Check.due("ask(1, 0)", g.ask(1, 0), Check.NULL);
        Check.status(g, "ask of a missing one", 1);
        Check.due("NULL empties the trace", g.trace(0), Check.NONE);
    }

    private static void counted(GrainWaves g, int... wants) {
        for (int what = 0; what < 8; what++) {
            Check.due("count(" + what + ")", g.count(what), wants[what]);
        }
    }

    private static void counts() {
        GrainWaves g = new GrainWaves();
        Check.due("count(8)", g.count(8), Check.BAD);
        Check.due("count(-1)", g.count(-1), Check.BAD);
        Check.run(g, "point 0 0 0 16 0;point 5 3 3 1 1;point 6 0 0 0 0;");
        g.sheet(2, 0, 0);
        g.take(0, 0, 1, 1);
        g.take(1, 1, 1, 1);
        g.take(2, 1, 1, 1);
        g.take(3, 0, 1, 1);
        g.lose(2, 3);
        for (int k = 0; k < 9; k++) {
            g.lose(3, k);
        }
        Check.feed(g, "way 0;");
        counted(g, 1, 2, 4, 2, 1, 2, 1, 6);
        g.drop(2);
        Check.run(g, "wipe 0;");
        counted(g, 0, 1, 4, 2, 1, 2, 1, 0);
    }

    private static void status() {
        GrainWaves g = new GrainWaves();
        g.kind(0);
        Check.status(g, "kind of a missing one", 1);
        g.count(0);
        g.trace(0);
        g.part(0, 0, 0);
        g.bright(0, 0);
        g.moved(0, 0, 0);
        g.way(0, 0);
        g.feed(32, 1);
        g.run();
        g.fault();
        g.parts(0, 0, 0, 0);
        g.take(0, 0, 0, 1);
        Check.status(g, "calls without a SHEET or a PLATE, and take", 1);
        g.kind(0);
        Check.status(g, "kind", 0);
        g.as(0, 4);
        Check.status(g, "as", 3);
        g.sheet(9, 0, 0);
        Check.status(g, "BAD", 3);
        g.sheet(0, 0, 0);
        Check.status(g, "sheet", 0);
    }
}
