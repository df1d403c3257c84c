/** Promises 6 to 8. */
public final class TextsTest {
    public static void main(String[] args) {
        feed();
        acts();
        fullActs();
        faults();
        manyActs();
        Check.finish();
    }

    private static void feed() {
        GrainWaves g = new GrainWaves();
        Check.due("feed(0)", g.feed(1, 0), Check.BAD);
        Check.due("feed(9)", g.feed(1, 9), Check.BAD);
        Check.due("feed(-1)", g.feed(1, -1), Check.BAD);
        Check.due("spaces", g.feed(0x2020202020202020L, 7), 7);
        for (int k = 1; k <= 49; k++) {
            g.feed(0x2020202020202020L, 8);
        }
        Check.due("count(7)", g.count(7), 399);
        Check.due("two more", g.feed(0x2020, 2), Check.FULL);
        Check.due("count(7) after FULL", g.count(7), 399);
        Check.due("one more", g.feed(0x20, 1), 400);
        Check.due("another", g.feed(0x20, 1), Check.FULL);
        Check.due("run of blanks", g.run(), 0);
        Check.due("count(7) after run", g.count(7), 0);
        Check.status(g, "feed, run", 0);
        // 'x' stands above the lowest six bytes and is not fed.
        Check.due("the lowest", g.feed(0x7877617930303bL, 6), 6);
        Check.due("run of way00;", g.run(), 1);
    }

    private static void acts() {
        GrainWaves g = new GrainWaves();
        Check.ran(g, "point 7 1 2 1000 0;point 7 1 2 1 1;point 7 0 0 2 2;point 7 3 3 3 3;", 4);
        Check.number(g, 7, 9, 1000, 1);
        Check.number(g, 7, 0, -2, 0);
        Check.number(g, 7, 15, 0, -3);
        Check.ran(g, "turn 7 1 2 0;", 1);
        Check.number(g, 7, 9, 1000, 1);
        Check.ran(g, "turn 7 1 2 1;", 1);
        Check.number(g, 7, 9, -1, 1000);
        Check.ran(g, "turn 7 1 2 2;", 1);
        Check.number(g, 7, 9, 1, -1000);
        Check.ran(g, "turn 7 1 2 3;", 1);
        Check.number(g, 7, 9, -1000, -1);
        Check.ran(g, "dim 7 1 2;", 1);
        Check.number(g, 7, 9, 0, 0);
        Check.number(g, 7, 15, 0, -3);
        Check.ran(g, "plane 1 1 2 5 3;", 1);
        Check.number(g, 1, 0, 0, -5);
        Check.number(g, 1, 1, 5, 0);
        Check.number(g, 1, 4, 0, 5);
        Check.number(g, 1, 7, 5, 0);
        Check.ran(g, "add 7 1;add 1 1;", 2);
        Check.number(g, 7, 0, -2, -5);
        Check.number(g, 1, 0, 0, -10);
        Check.ran(g, "point 6 3 3 2 0;dim 6 3 3;point 6 3 3 9 0;turn 6 3 3 3;add 0 7;", 5);
        Check.number(g, 6, 15, 0, -9);
        Check.number(g, 0, 0, -2, -5);
        Check.ran(g, "wipe 1;\nway\n7 ; ", 2);
        Check.due("wiped", g.bright(1, Check.NONE), 0);
        GrainWaves h = new GrainWaves();
        Check.ran(h, "point2 1 0 00003 0;way2;", 2);
        Check.number(h, 2, 0, 3, 0);
        Check.number(h, 2, 1, 0, 3);
        Check.number(h, 2, 2, -3, 0);
        Check.number(h, 2, 4, 3, 0);
        Check.ran(h, "", 0);
    }

    private static void fullActs() {
        GrainWaves g = new GrainWaves();
        g.sheet(0, 2, 32);
        g.set(0, 0, 1000000);
        g.set(0, 31, -999999);
        g.lay(0, 0, 0);
        Check.ran(g, "point 0 0 0 1 0;point 0 0 0 1 1;point 0 3 3 1 3;point 0 3 3 1 3;", 2);
        Check.number(g, 0, 0, 1000000, 1);
        Check.number(g, 0, 15, 0, -1000000);
        Check.ran(g, "plane 0 0 0 1 0;point 0 1 0 7 0;", 1);
        Check.number(g, 0, 2, 0, 0);
        Check.number(g, 0, 1, 7, 0);
        Check.ran(g, "add 0 0;way 0;turn 0 0 0 2;", 1);
        Check.number(g, 0, 0, -1000000, -1);
        Check.number(g, 0, 1, 7, 0);
        Check.ran(g, "point 0 0 0 1 2;", 0);
    }

    private static void faults() {
        GrainWaves g = new GrainWaves();
        Check.faulty(g, "point 0 0 0 1 0;x", 16, 1);
        Check.due("nothing was done", g.bright(0, Check.NONE), 0);
        Check.faulty(g, "point", 5, 1);
        Check.faulty(g, "point  ", 7, 1);
        Check.faulty(g, " pint 0 0 0 1 0;", 1, 1);
        Check.faulty(g, "point 8 0 0 1 0;", 6, 2);
        Check.faulty(g, "point 0 4 0 1 0;", 8, 2);
        Check.faulty(g, "point 0 0 4 1 0;", 10, 2);
        Check.faulty(g, "point 0 0 0 1001 0;", 12, 2);
        Check.faulty(g, "point 0 0 0 1000 4;", 17, 2);
        Check.faulty(g, "plane 8 0 0 1 0;", 6, 2);
        Check.faulty(g, "plane 0 4 0 1 0;", 8, 2);
        Check.faulty(g, "plane 0 0 4 1 0;", 10, 2);
        Check.faulty(g, "plane 0 0 0 99999 0;", 12, 2);
        Check.faulty(g, "plane 0 0 0 100000 0;", 12, 1);
        Check.faulty(g, "plane 0 0 0 000001 0;", 12, 1);
        Check.faulty(g, "dim 8 0 0;", 4, 2);
        Check.faulty(g, "dim 0 4 0;", 6, 2);
        Check.faulty(g, "dim 0 3 4;", 8, 2);
        Check.faulty(g, "turn 8 0 0 0;", 5, 2);
        Check.faulty(g, "turn 0 4 0 0;", 7, 2);
        Check.faulty(g, "turn 0 0 4 0;", 9, 2);
        Check.faulty(g, "turn 0 0 0 4;", 11, 2);
        Check.faulty(g, "add 7 8;", 6, 2);
        Check.faulty(g, "add 8 x;", 4, 2);
        Check.faulty(g, "way 8;", 4, 2);
        Check.faulty(g, "wipe 8;", 5, 2);
        Check.faulty(g, "way way;", 4, 1);
        Check.faulty(g, "way ;", 4, 1);
        Check.faulty(g, "way 0 0;", 6, 1);
        Check.faulty(g, ";", 0, 1);
        Check.faulty(g, "0", 0, 1);
        Check.faulty(g, "way 0;\twipe 0;", 6, 1);
        Check.faulty(g, "Way 0;", 0, 1);
        Check.faulty(g, "way 0" + (char) 200 + ";", 5, 1);
        Check.faulty(g, "wayway 0;", 0, 1);
        Check.faulty(g, "wayz 0;", 0, 1);
        Check.faulty(g, "xay 0;", 0, 1);
        Check.faulty(g, "way 0;way 1111;", 10, 2);
        // What an earlier text left behind the end is not read.
        Check.faulty(g, "way 0;wa", 6, 1);
        Check.faulty(g, "way 0", 5, 1);
        Check.faulty(g, "way 0;way 3", 11, 1);
        Check.faulty(g, "wa y 0;", 0, 1);
        Check.faulty(g, "wipe 8;", 5, 2);
        Check.ran(g, "wipe 0;", 1);
        Check.due("the latest fault stays", g.fault(), 2);
    }

    private static void manyActs() {
        GrainWaves g = new GrainWaves();
        StringBuilder text = new StringBuilder();
        for (int k = 0; k < 80; k++) {
            text.append("way0;");
        }
        Check.due("400 bytes", Check.feed(g, text.toString()), 400);
        Check.due("80 acts", g.run(), 80);
    }
}
