/** Promises 9 to 13. */
public final class WavesTest {
    public static void main(String[] args) {
        way();
        wayRefused();
        lay();
        part();
        bright();
        moved();
        Check.finish();
    }

    private static void way() {
        GrainWaves g = new GrainWaves();
        Check.run(g, "point 0 1 2 3 1;point 0 3 3 4 0;");
        Check.due("way", g.way(0, 0), 1);
        // u = 1, v = 0: 3i turned once, and 4 turned three times.
        Check.number(g, 0, 1, -3, -4);
        // u = 0, v = 1: 3i turned twice, and 4 turned three times.
        Check.number(g, 0, 4, 0, -7);
        // u = 3, v = 2: turns 3 + 4 and 9 + 6, which are both 3.
        Check.number(g, 0, 11, 3, -4);
        Check.due("back", g.way(0, 1), 1);
        Check.number(g, 0, 9, 0, 3);
        Check.number(g, 0, 15, 4, 0);
        Check.due("all", g.bright(0, Check.NONE), 25);
        Check.run(g, "point 2 0 0 480 1;");
        Check.due("back of 480i", g.way(2, 1), 1);
        Check.number(g, 2, 15, 0, 30);
        Check.run(g, "point 1 1 0 16 0;");
        Check.due("back of a point", g.way(1, 1), 1);
        Check.number(g, 1, 1, 0, -1);
        Check.number(g, 1, 3, 0, 1);
        Check.number(g, 1, 4, 1, 0);
    }

    private static void wayRefused() {
        GrainWaves g = new GrainWaves();
        Check.run(g, "point 0 0 0 15 0;");
        Check.due("BACK of 15", g.way(0, 1), Check.STATE);
        Check.number(g, 0, 0, 15, 0);
        Check.run(g, "wipe 0;point 0 0 0 24 1;");
        Check.due("BACK of 24i", g.way(0, 1), Check.STATE);
        Check.due("way(8, 0)", g.way(8, 0), Check.BAD);
        Check.due("way(-1, 0)", g.way(-1, 0), Check.BAD);
        Check.due("way(0, 2)", g.way(0, 2), Check.BAD);
        Check.due("way(0, -1)", g.way(0, -1), Check.BAD);
        g.sheet(0, 2, 32);
        g.set(0, 0, 1000000);
        g.lay(1, 0, 0);
        Check.due("the most", g.way(1, 0), 1);
        Check.due("back from the most", g.way(1, 1), 1);
        g.set(0, 2, 1);
        g.lay(1, 0, 0);
        Check.due("one too many", g.way(1, 0), Check.FULL);
        Check.number(g, 1, 0, 1000000, 0);
        Check.number(g, 1, 2, 0, 0);
    }

    private static void lay() {
        GrainWaves g = new GrainWaves();
        g.sheet(0, 2, 34);
        for (int k = 0; k < 34; k++) {
            g.set(0, k, 10 * k - 100);
        }
        Check.due("lay(3, 0, 2)", g.lay(3, 0, 2), 1);
        Check.status(g, "lay", 0);
        Check.number(g, 3, 0, -80, -70);
        Check.number(g, 3, 15, 220, 230);
        Check.due("lay(3, 0, 3)", g.lay(3, 0, 3), Check.PLACE);
        Check.status(g, "PLACE", 2);
        Check.due("lay(3, 0, -1)", g.lay(3, 0, -1), Check.PLACE);
        Check.due("lay at a great place", g.lay(3, 0, Integer.MAX_VALUE), Check.PLACE);
        Check.due("lay(3, 1, 3)", g.lay(3, 1, 3), Check.NULL);
        Check.status(g, "NULL", 1);
        Check.due("lay(8, 1, 0)", g.lay(8, 1, 0), Check.BAD);
        Check.due("lay(0, 8, 0)", g.lay(0, 8, 0), Check.BAD);
        Check.due("lay(-1, 0, 0)", g.lay(-1, 0, 0), Check.BAD);
        g.set(0, 33, 1000001);
        Check.due("beyond", g.lay(3, 0, 2), Check.BAD);
        Check.due("not beyond", g.lay(3, 0, 1), 1);
        g.set(0, 33, Integer.MIN_VALUE);
        g.lay(3, 1, 0);
        Check.due("far beyond", g.lay(3, 0, 2), Check.BAD);
        Check.status(g, "BAD keeps NULL", 1);
        g.set(0, 33, -1000000);
        Check.due("the least", g.lay(3, 0, 2), 1);
        Check.number(g, 3, 15, 220, -1000000);
        g.sheet(1, 0, 32);
        g.set(1, 1, 255);
        g.lay(4, 1, 0);
        Check.number(g, 4, 0, 0, -1);
    }

    private static void part() {
        GrainWaves g = new GrainWaves();
        Check.run(g, "point 0 3 3 5 3;");
        Check.due("part(0, 15, 0)", g.part(0, 15, 0), 0);
        Check.due("part(0, 15, 1)", g.part(0, 15, 1), -5);
        Check.due("part(0, 16, 0)", g.part(0, 16, 0), Check.BAD);
        Check.due("part(0, -1, 0)", g.part(0, -1, 0), Check.BAD);
        Check.due("part(8, 0, 0)", g.part(8, 0, 0), Check.BAD);
        Check.due("part(-1, 0, 0)", g.part(-1, 0, 0), Check.BAD);
        Check.due("part(0, 0, 2)", g.part(0, 0, 2), Check.BAD);
        Check.due("part(0, 0, -1)", g.part(0, 0, -1), Check.BAD);
    }

    private static void bright() {
        GrainWaves g = new GrainWaves();
        Check.run(g, "point 0 3 3 3 3;point 0 3 3 4 2;point 0 0 0 7 1;");
        Check.due("bright(0, 15)", g.bright(0, 15), 25);
        Check.due("bright(0, 0)", g.bright(0, 0), 49);
        Check.due("bright of all", g.bright(0, Check.NONE), 74);
        Check.due("bright(0, 16)", g.bright(0, 16), Check.BAD);
        Check.due("bright(0, -1)", g.bright(0, -1), Check.BAD);
        Check.due("bright(8, NONE)", g.bright(8, Check.NONE), Check.BAD);
        Check.due("bright(-1, 0)", g.bright(-1, 0), Check.BAD);
        g.sheet(0, 2, 32);
        for (int k = 0; k < 32; k++) {
            g.set(0, k, k % 2 == 0 ? 1000000 : -1000000);
        }
        g.lay(1, 0, 0);
        Check.due("the most bright", g.bright(1, 3), 2000000000000L);
        Check.due("the most bright of all", g.bright(1, Check.NONE), 32000000000000L);
    }

    private static void moved() {
        GrainWaves g = new GrainWaves();
        Check.run(g, "point 0 0 0 4 0;point 0 0 0 2 1;point 0 1 0 1 0;");
        for (int t = 0; t < 4; t++) {
            Check.run(g, "wipe 1;point 1 0 0 6 0;point 1 0 0 3 1;turn 1 0 0 " + t + ";");
            Check.due("moved by turn " + t, g.moved(0, 1, 0), t);
            Check.due("moved back from " + t, g.moved(1, 0, 0), (4 - t) % 4);
        }
        Check.run(g, "point 1 1 0 1 0;point 1 1 0 1 1;");
        Check.due("an eighth of a turn", g.moved(0, 1, 1), Check.NONE);
        Check.due("from dark", g.moved(2, 0, 0), Check.NONE);
        Check.due("to dark", g.moved(0, 2, 0), Check.NONE);
        Check.due("to itself", g.moved(0, 0, 0), 0);
        Check.due("1 to itself", g.moved(0, 0, 1), 0);
        Check.due("moved(8, 0, 0)", g.moved(8, 0, 0), Check.BAD);
        Check.due("moved(0, 8, 0)", g.moved(0, 8, 0), Check.BAD);
        Check.due("moved(0, 0, 16)", g.moved(0, 0, 16), Check.BAD);
        Check.due("moved(0, 0, -1)", g.moved(0, 0, -1), Check.BAD);
        g.sheet(0, 2, 32);
        g.set(0, 0, 999999);
        g.set(0, 1, 1000000);
        g.lay(3, 0, 0);
        g.set(0, 0, 999998);
        g.set(0, 1, 999999);
        g.lay(4, 0, 0);
        Check.due("nearly the same way", g.moved(3, 4, 0), Check.NONE);
    }
}
