/** Promises 14 to 20. */
public final class PlatesTest {
    public static void main(String[] args) {
        take();
        lose();
        grain();
        read();
        parts();
        off();
        offRefused();
        lack();
        Check.finish();
    }

    /** A wave that is re, im at every place. */
    private static void layEven(GrainWaves g, int wave, int re, int im) {
        g.sheet(7, 2, 32);
        for (int k = 0; k < 16; k++) {
            g.set(7, 2 * k, re);
            g.set(7, 2 * k + 1, im);
        }
        g.lay(wave, 7, 0);
        g.drop(7);
    }

    private static void take() {
        GrainWaves g = new GrainWaves();
        Check.run(g, "point 0 0 0 15 0;point 1 0 0 1 0;point 0 1 0 15 0;point 1 1 0 5 1;point 0 2 0 7 0;");
        Check.due("take(5, 0, 1, 1)", g.take(5, 0, 1, 1), 1);
        Check.due("256 is 255 at most", g.grain(5, 0), 255);
        Check.due("250", g.grain(5, 1), 250);
        Check.due("49", g.grain(5, 2), 49);
        Check.due("dark", g.grain(5, 3), 0);
        Check.due("take(5, 0, 1, 50)", g.take(5, 0, 1, 50), 0);
        Check.due("256 by 50", g.grain(5, 0), 5);
        Check.due("250 by 50", g.grain(5, 1), 5);
        Check.due("49 by 50", g.grain(5, 2), 0);
        g.lose(5, 0);
        Check.due("a new take", g.take(5, 0, 0, 2), 2);
        Check.due("has all grains", g.grain(5, 0), 255);
        Check.due("98 by the step", g.grain(5, 2), 98);
        layEven(g, 2, 1000000, -1000000);
        Check.due("the brightest", g.take(0, 2, 2, 100000), 16);
        Check.run(g, "wipe 3;");
        Check.due("of a wave and its opposite", g.take(0, 3, 3, 1), 0);
        takeRefused();
    }

    private static void takeRefused() {
        GrainWaves g = new GrainWaves();
        g.kind(0);
        Check.due("take(6, 0, 0, 1)", g.take(6, 0, 0, 1), Check.BAD);
        Check.due("take(-1, 0, 0, 1)", g.take(-1, 0, 0, 1), Check.BAD);
        Check.due("take(0, 8, 0, 1)", g.take(0, 8, 0, 1), Check.BAD);
        Check.due("take(0, 0, 8, 1)", g.take(0, 0, 8, 1), Check.BAD);
        Check.due("take(0, 0, 0, 0)", g.take(0, 0, 0, 0), Check.BAD);
        Check.due("take(0, 0, 0, 100001)", g.take(0, 0, 0, 100001), Check.BAD);
        Check.due("count(2)", g.count(2), 0);
        Check.due("take(0, 0, 0, 100000)", g.take(0, 0, 0, 100000), 0);
        Check.status(g, "take keeps it", 1);
    }

    private static void lose() {
        GrainWaves g = new GrainWaves();
        Check.run(g, "point 0 0 0 3 0;");
        g.take(0, 0, 1, 1);
        g.lose(1, 0);
        Check.due("lose(0, 0)", g.lose(0, 0), 9);
        Check.status(g, "lose", 0);
        Check.due("lose(0, 0) again", g.lose(0, 0), Check.NONE);
        Check.status(g, "lose", 0);
        Check.due("lose(0, 15)", g.lose(0, 15), 0);
        Check.due("lose(0, 16)", g.lose(0, 16), Check.BAD);
        Check.due("lose(0, -1)", g.lose(0, -1), Check.BAD);
        Check.due("lose(6, 0)", g.lose(6, 0), Check.BAD);
        Check.due("lose(1, 0)", g.lose(1, 0), Check.NULL);
        Check.status(g, "lose of none", 1);
    }

    private static void grain() {
        GrainWaves g = new GrainWaves();
        Check.run(g, "point 0 3 3 4 0;");
        g.take(4, 0, 1, 3);
        Check.due("grain(4, 15)", g.grain(4, 15), 5);
        Check.due("STEP", g.grain(4, -1), 3);
        g.lose(4, 15);
        Check.due("LOST", g.grain(4, 15), Check.NONE);
        Check.due("grain(4, 16)", g.grain(4, 16), Check.BAD);
        Check.due("grain(4, -2)", g.grain(4, -2), Check.BAD);
        Check.due("grain(-1, 0)", g.grain(-1, 0), Check.BAD);
        Check.due("grain(6, 0)", g.grain(6, 0), Check.BAD);
        Check.due("grain(3, -1)", g.grain(3, -1), Check.NULL);
        Check.status(g, "NULL", 1);
        g.grain(4, -1);
        Check.status(g, "a STEP", 0);
        g.grain(3, 0);
        g.grain(4, 0);
        Check.status(g, "a grain", 0);
    }

    private static void read() {
        GrainWaves g = new GrainWaves();
        Check.run(g, "point 0 0 0 3 0;point 0 1 0 4 1;point 0 2 0 5 2;plane 1 0 0 2 1;");
        g.take(0, 0, 2, 2);
        g.lose(0, 1);
        Check.due("read(0, 1, 3)", g.read(0, 1, 3), 1);
        Check.status(g, "read", 0);
        Check.number(g, 3, 0, 0, 16);
        Check.number(g, 3, 1, 0, 0);
        Check.number(g, 3, 2, 0, 48);
        Check.due("read into itself", g.read(0, 1, 1), 1);
        Check.number(g, 1, 2, 0, 48);
        Check.number(g, 1, 3, 0, 0);
        Check.due("read(6, 0, 0)", g.read(6, 0, 0), Check.BAD);
        Check.due("read(0, 8, 0)", g.read(0, 8, 0), Check.BAD);
        Check.due("read(0, 0, 8)", g.read(0, 0, 8), Check.BAD);
        Check.due("read(1, 0, 0)", g.read(1, 0, 0), Check.NULL);
        layEven(g, 4, 1, -1);
        layEven(g, 5, 1000, 0);
        g.take(1, 5, 2, 100000);
        Check.due("1000000", g.read(1, 4, 6), 1);
        Check.number(g, 6, 7, 1000000, -1000000);
        Check.run(g, "point 4 3 3 1 3;");
        g.read(2, 0, 0);
        Check.due("beyond", g.read(1, 4, 4), Check.FULL);
        Check.status(g, "FULL keeps NULL", 1);
        Check.number(g, 4, 0, 1, -1);
    }

    private static void parts() {
        GrainWaves g = new GrainWaves();
        // o = 2 + 3i, r = 1 - 2i at place 5; |o| = 13, |r| = 5, r r = -3 - 4i.
        Check.run(g, "point 0 1 1 2 0;point 0 1 1 3 1;point 1 1 1 1 0;point 1 1 1 2 3;point 1 0 0 3 1;");
        Check.due("part 0", g.parts(0, 1, 0, 2), 1);
        Check.number(g, 2, 5, 5, -10);
        Check.number(g, 2, 0, 0, 27);
        Check.due("part 1", g.parts(0, 1, 1, 2), 1);
        Check.number(g, 2, 5, 13, -26);
        Check.due("part 2", g.parts(0, 1, 2, 2), 1);
        Check.number(g, 2, 5, 10, 15);
        Check.due("part 3", g.parts(0, 1, 3, 2), 1);
        Check.number(g, 2, 5, -18, 1);
        Check.number(g, 2, 4, 0, 0);
        Check.due("into o", g.parts(0, 1, 3, 0), 1);
        Check.number(g, 0, 5, -18, 1);
        Check.due("parts(8, 0, 0, 0)", g.parts(8, 0, 0, 0), Check.BAD);
        Check.due("parts(0, 8, 0, 0)", g.parts(0, 8, 0, 0), Check.BAD);
        Check.due("parts(0, 0, 4, 0)", g.parts(0, 0, 4, 0), Check.BAD);
        Check.due("parts(0, 0, -1, 0)", g.parts(0, 0, -1, 0), Check.BAD);
        Check.due("parts(0, 0, 0, 8)", g.parts(0, 0, 0, 8), Check.BAD);
        layEven(g, 3, 1000000, 1000000);
        for (int k = 0; k < 4; k++) {
            Check.due("FULL of part " + k, g.parts(3, 3, k, 3), Check.FULL);
        }
        Check.number(g, 3, 15, 1000000, 1000000);
        layEven(g, 4, 100, 0);
        g.kind(0);
        Check.due("the most", g.parts(4, 4, 0, 5), 1);
        Check.number(g, 5, 15, 1000000, 0);
        Check.status(g, "parts keeps it", 1);
    }

    private static void off() {
        GrainWaves g = new GrainWaves();
        Check.run(g, "point 0 1 0 3 0;point 0 1 0 2 1;");
        for (int t = 0; t < 4; t++) {
            Check.run(g, "plane " + (t + 1) + " 0 0 4 " + t + ";");
            g.take(t + 2, 0, t + 1, 1);
        }
        Check.due("off(2, 7)", g.off(2, 7), 1);
        Check.status(g, "off", 0);
        Check.number(g, 7, 1, 48, 32);
        Check.number(g, 7, 0, 0, 0);
        for (int t = 0; t < 4; t++) {
            g.take(t + 2, 0, t + 1, 3);
        }
        // 53, 45, 5, 13 by 3 are 17, 15, 1, 4.
        Check.due("off by threes", g.off(2, 7), 1);
        Check.number(g, 7, 1, 48, 33);
    }

    private static void offRefused() {
        GrainWaves g = new GrainWaves();
        for (int p = 1; p < 4; p++) {
            g.take(p, 0, 0, 5);
        }
        Check.due("the first is missing", g.off(0, 0), Check.NULL);
        g.take(0, 0, 0, 5);
        g.lose(0, 7);
        Check.due("of the first one is LOST", g.off(0, 0), Check.STATE);
        g = new GrainWaves();
        for (int p = 0; p < 3; p++) {
            g.take(p, 0, 0, 5);
        }
        Check.due("the last is missing", g.off(0, 0), Check.NULL);
        Check.status(g, "NULL", 1);
        g.take(3, 0, 0, 5);
        Check.due("off(0, 0)", g.off(0, 0), 1);
        Check.due("off(3, 0)", g.off(3, 0), Check.BAD);
        Check.due("off(-1, 0)", g.off(-1, 0), Check.BAD);
        Check.due("off(0, 8)", g.off(0, 8), Check.BAD);
        g.lose(3, 15);
        g.kind(4);
        Check.due("LOST", g.off(0, 0), Check.STATE);
        Check.status(g, "STATE keeps NULL", 1);
        Check.due("NULL ahead of STATE", g.off(1, 0), Check.NULL);
        g.take(3, 0, 0, 6);
        Check.due("STEPS unlike", g.off(0, 0), Check.STATE);
        layEven(g, 1, 1000000, 0);
        g.take(0, 1, 1, 100000);
        g.take(1, 0, 0, 100000);
        g.take(2, 0, 0, 100000);
        g.take(3, 0, 0, 100000);
        Check.run(g, "wipe 5;point 5 0 0 9 0;");
        Check.due("beyond", g.off(0, 5), Check.FULL);
        Check.number(g, 5, 0, 9, 0);
        g.lose(2, 0);
        Check.due("STATE ahead of FULL", g.off(0, 5), Check.STATE);
    }

    private static void lack() {
        GrainWaves g = new GrainWaves();
        Check.run(g, "point 0 0 0 7 0;point 0 1 0 5 1;point 1 0 0 2 2;point 1 1 0 3 3;point 1 1 0 1 0;");
        g.take(0, 0, 2, 1);
        g.take(1, 0, 2, 10);
        // 49 beside 40, with 2; 25 beside 20, with 1 + 3.
        Check.due("lack(0, 1, 1)", g.lack(0, 1, 1), 38);
        Check.due("lack(1, 0, 1)", g.lack(1, 0, 1), 38);
        Check.status(g, "lack", 0);
        g.lose(1, 0);
        Check.due("with a LOST one", g.lack(0, 1, 1), 118);
        g.lose(0, 0);
        Check.due("with two LOST ones", g.lack(0, 1, 1), 20);
        Check.due("lack(6, 0, 0)", g.lack(6, 0, 0), Check.BAD);
        Check.due("lack(0, 6, 0)", g.lack(0, 6, 0), Check.BAD);
        Check.due("lack(0, 0, 8)", g.lack(0, 0, 8), Check.BAD);
        Check.due("lack(2, 0, 0)", g.lack(2, 0, 0), Check.NULL);
        Check.due("lack(0, 2, 0)", g.lack(0, 2, 0), Check.NULL);
        Check.status(g, "NULL", 1);
        layEven(g, 3, 1000000, -1000000);
        g.take(2, 3, 3, 100000);
        g.take(3, 2, 2, 1);
        Check.due("the most", g.lack(3, 2, 3), 16L * 25500000L * 2000000L);
    }
}
