import java.util.Random;

/** Runs of random calls, each answer beside that of PlainModel; a wrong run can be told again by its number. */
public final class ModelTest {
    /** An object is good for 512 calls: a text may take 40 of them, and the last look takes 135. */
    private static final int RUNS = 4000, CALLS = 330;
    private static final int[] WILD = {-1, -2, -3, 3, 4, 5, 6, 7, 8, 15, 16, 17, 63, 64, 65, 255, 256, 65535, 65536, 100000,
        100001, -1000000, 1000000, 1000001, Integer.MAX_VALUE, Integer.MIN_VALUE};

    private final Random random;
    private final GrainWaves g = new GrainWaves();
    private final PlainModel m = new PlainModel();
    private final int run;
    private int calls = 0;

    private ModelTest(int run) {
        this.run = run;
        this.random = new Random(run);
    }

    public static void main(String[] args) {
        for (int run = 0; run < RUNS; run++) {
            new ModelTest(run).play();
        }
        Check.finish();
    }

    private void play() {
        while (calls < CALLS) {
            call(random.nextInt(30));
            due("status()", g.status(), m.status());
        }
        look();
    }

    private void due(String call, long got, long want) {
        calls++;
        if (got != want) {
            Check.due("run " + run + ": " + call, got, want);
        }
    }

    /** A number below an end, now and then a wild one. */
    private int below(int end) {
        return random.nextInt(40) == 0 ? WILD[random.nextInt(WILD.length)] : random.nextInt(end);
    }

    private int few() {
        return below(random.nextInt(4) == 0 ? 8 : 2);
    }

    private int plate() {
        return below(random.nextInt(3) == 0 ? 6 : 4);
    }

    private int item() {
        int size = random.nextInt(8);
        if (size < 5) {
            return random.nextInt(7) - 3;
        }
        if (size < 7) {
            return random.nextInt(65) - 32;
        }
        return WILD[random.nextInt(WILD.length)];
    }

    private int step() {
        int size = random.nextInt(4);
        return size < 2 ? 1 : size == 2 ? 1 + random.nextInt(20) : below(100001);
    }

    private void call(int which) {
        int a = few();
        int b = few();
        int c = few();
        int p = plate();
        int q = plate();
        int place = below(16);
        int bit = below(2);
        switch (which) {
            case 0 -> sheet(a, below(3), random.nextInt(3) == 0 ? below(65) : 64);
            case 1, 2 -> fill(a);
            case 3 -> {
                int i = below(40);
                int j = below(40);
                int n = below(40);
                due("copy", g.copy(a, i, b, j, n), m.copy(a, i, b, j, n));
            }
            case 4 -> due("drop", g.drop(a), m.drop(a));
            case 5, 6, 7 -> text();
            case 8 -> due("run()", g.run(), m.run());
            case 9 -> due("way", g.way(a, bit), m.way(a, bit));
            case 10, 11 -> {
                int i = below(33);
                due("lay", g.lay(a, b, i), m.lay(a, b, i));
            }
            case 12 -> due("part", g.part(a, place, bit), m.part(a, place, bit));
            case 13 -> {
                int at = bit == 0 ? place : Check.NONE;
                due("bright", g.bright(a, at), m.bright(a, at));
            }
            case 14 -> due("moved", g.moved(a, b, place), m.moved(a, b, place));
            case 15, 16 -> {
                int step = step();
                due("take", g.take(p, a, b, step), m.take(p, a, b, step));
            }
            case 17, 18 -> lose(p);
            default -> callMore(which, a, b, c, p, q, place);
        }
    }

    private void callMore(int which, int a, int b, int c, int p, int q, int place) {
        int bit = below(2);
        switch (which) {
            case 19 -> due("grain", g.grain(p, place - 1), m.grain(p, place - 1));
            case 20 -> due("read", g.read(p, a, b), m.read(p, a, b));
            case 21 -> {
                int k = below(4);
                due("parts", g.parts(a, b, k, c), m.parts(a, b, k, c));
            }
            case 22 -> off(a);
            case 23 -> due("lack", g.lack(p, q, a), m.lack(p, q, a));
            case 24 -> fits(a);
            case 25 -> {
                int mark = below(65536);
                int what = random.nextInt(6) == 0 ? bit : 0;
                due("mark", g.mark(p, mark, what), m.mark(p, mark, what));
            }
            case 26 -> due("kind", g.kind(p), m.kind(p));
            case 27 -> {
                int kind = below(5);
                due("as", g.as(p, kind), m.as(p, kind));
            }
            case 28 -> {
                due("ask", g.ask(p, bit), m.ask(p, bit));
                int i = below(7);
                due("trace", g.trace(i), m.trace(i));
            }
            default -> {
                int what = below(8);
                due("count", g.count(what), m.count(what));
            }
        }
    }

    private void sheet(int sheet, int lane, int n) {
        due("sheet", g.sheet(sheet, lane, n), m.sheet(sheet, lane, n));
    }

    private void fill(int sheet) {
        for (int k = 0; k < 4; k++) {
            int i = below(64);
            int v = item();
            due("set", g.set(sheet, i, v), m.set(sheet, i, v));
        }
    }

    private void lose(int plate) {
        int n = random.nextInt(4) == 0 ? 6 : 1;
        for (int k = 0; k < n; k++) {
            int place = below(16);
            due("lose", g.lose(plate, place), m.lose(plate, place));
        }
    }

    private void off(int to) {
        int p = below(3);
        if (random.nextBoolean()) {
            int step = 1 + random.nextInt(3);
            for (int k = 0; k < 4 && p >= 0 && p < 3; k++) {
                int a = random.nextInt(2);
                due("take", g.take(p + k, a, k % 2, step), m.take(p + k, a, k % 2, step));
            }
        }
        due("off", g.off(p, to), m.off(p, to));
    }

    private void fits(int sheet) {
        int near = below(16);
        int i = random.nextInt(4);
        int[][] told = {{16, 0, 0, 0}, {4, 4, 4, 4}, {1, 1, 1, 1}, {2, 2, 2, 2}, {0, 0, 0, 0}, {4, 2, 0, 2}, {1, 5, 1, 5}};
        if (random.nextInt(3) > 0) {
            int[] row = told[random.nextInt(told.length)];
            for (int u = 0; u < 4; u++) {
                due("set", g.set(sheet, i + u, row[u]), m.set(sheet, i + u, row[u]));
            }
        }
        int k = below(8) - 2;
        due("fits", g.fits(near, sheet, i, k), m.fits(near, sheet, i, k));
    }

    private void text() {
        StringBuilder text = new StringBuilder();
        int acts = 1 + random.nextInt(4);
        for (int k = 0; k < acts; k++) {
            String[] names = {"point", "plane", "dim", "turn", "add", "way", "wipe"};
            int[][] tops = {{2, 4, 4, 30, 4}, {2, 4, 4, 10, 4}, {2, 4, 4}, {2, 4, 4, 4}, {2, 2}, {8}, {8}};
            int which = random.nextInt(6 + random.nextInt(2));
            text.append(names[which]);
            for (int top : tops[which]) {
                int number = random.nextInt(60) == 0 ? 9 * random.nextInt(20000) : random.nextInt(top);
                text.append(random.nextInt(9) == 0 ? "\n " : " ").append(number);
            }
            text.append(";");
        }
        if (random.nextInt(5) == 0) {
            String signs = " \n;;0123456789abz{AZ/:`\t" + (char) 0 + (char) 160 + (char) 255;
            int at = random.nextInt(text.length());
            char sign = signs.charAt(random.nextInt(signs.length()));
            switch (random.nextInt(3)) {
                case 0 -> text.setCharAt(at, sign);
                case 1 -> text.insert(at, sign);
                default -> text.deleteCharAt(at);
            }
        }
        feed(text.toString());
        if (random.nextInt(6) > 0) {
            due("run of '" + text + "'", g.run(), m.run());
            due("fault", g.fault(), m.fault());
        }
    }

    private void feed(String text) {
        int at = 0;
        while (at < text.length()) {
            int n = Math.min(text.length() - at, 1 + random.nextInt(8));
            long w = random.nextLong();
            for (int k = 0; k < n; k++) {
                w = w << 8 | text.charAt(at + k);
            }
            due("feed", g.feed(w, n), m.feed(w, n));
            at += n;
        }
    }

    /** Some of all that can be seen without a change but of status. */
    private void look() {
        for (int what = 0; what < 8; what++) {
            due("count(" + what + ")", g.count(what), m.count(what));
        }
        for (int k = 0; k < 7; k++) {
            due("trace(" + k + ")", g.trace(k), m.trace(k));
        }
        for (int k = 0; k < 40; k++) {
            int wave = few();
            int place = random.nextInt(16);
            due("part(" + wave + ", " + place + ", 0)", g.part(wave, place, 0), m.part(wave, place, 0));
            due("part(" + wave + ", " + place + ", 1)", g.part(wave, place, 1), m.part(wave, place, 1));
            int plate = plate();
            due("grain(" + plate + ", " + place + ")", g.grain(plate, place - 1), m.grain(plate, place - 1));
        }
    }
}
