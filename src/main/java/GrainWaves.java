import java.util.Arrays;

/** Waves on 4 by 4 places, the plates that keep their fringes in grains, and the searches over both. */
public final class GrainWaves {
    public static final int NONE = -1000000, BAD = -1000001, STATE = -1000002, FULL = -1000003;
    public static final long NOT = -9000000000000000000L;

    private static final int FOUND = -1000010, FAULTY = -1000100;
    private static final int NULL = 1, PLACE = 2, KIND = 3, SIZE = 4, STORE = 5;
    private static final int SHEETS = 8, WAVES = 8, PLATES = 6, PLACES = 16;
    private static final int EVERYWHERE = (1 << PLACES) - 1;
    private static final int LANES = 3, MOST_ITEMS = 64;
    private static final int MOST_PART = 1000000, MOST_STEP = 100000, WHITE = 255;
    private static final int THERE = 0, BACK = 1;
    private static final int ANY = 0, CLEAR = 1, FULLY = 2, TORN = 3, BLIND = 4;
    private static final int BLIND_FROM = 8;

    private final Sheet[] sheets = new Sheet[SHEETS];
    private final Wave[] waves = new Wave[WAVES];
    private final Plate[] plates = new Plate[PLATES];
    private final Draft draft = new Draft();
    private final Tape tape = new Tape();
    private final Script script = new Script();
    private final Rows rows = new Rows();
    private final Marks marks = new Marks();
    private final Asks asks = new Asks();
    private int latestFault = 0;
    private int latestFinding = 0;

    public GrainWaves() {
        for (int k = 0; k < SHEETS; k++) {
            sheets[k] = new Sheet();
        }
        for (int k = 0; k < WAVES; k++) {
            waves[k] = new Wave();
        }
        for (int k = 0; k < PLATES; k++) {
            plates[k] = new Plate();
        }
    }

    // ---- sheets

    public int sheet(int sheet, int lane, int n) {
        if (!isSheet(sheet) || !below(lane, LANES) || n > MOST_ITEMS) {
            return BAD;
        }
        if (n < 0) {
            return found(SIZE);
        }
        sheets[sheet].become(lane, n);
        return fine(n);
    }

    public int set(int sheet, int i, int v) {
        if (!isSheet(sheet)) {
            return BAD;
        }
        Sheet s = sheets[sheet];
        if (s.isMissing()) {
            return found(NULL);
        }
        if (!s.reaches(i, 1)) {
            return found(PLACE);
        }
        s.items[i] = s.cut(v);
        return fine(s.items[i]);
    }

    public int copy(int a, int i, int b, int j, int n) {
        if (!isSheet(a) || !isSheet(b)) {
            return BAD;
        }
        Sheet from = sheets[a];
        Sheet to = sheets[b];
        if (from.isMissing() || to.isMissing()) {
            return found(NULL);
        }
        if (from.lane != to.lane) {
            return found(STORE);
        }
        if (!from.reaches(i, n) || !to.reaches(j, n)) {
            return found(PLACE);
        }
        System.arraycopy(from.items, i, to.items, j, n);
        return fine(n);
    }

    public int drop(int sheet) {
        if (!isSheet(sheet)) {
            return BAD;
        }
        Sheet s = sheets[sheet];
        if (s.isMissing()) {
            return found(NULL);
        }
        int had = s.size;
        s.goMissing();
        return fine(had);
    }

    // ---- waves

    public int feed(long w, int n) {
        if (n < 1 || n > 8) {
            return BAD;
        }
        return tape.append(w, n) ? tape.length : FULL;
    }

    public int run() {
        boolean sound = script.readAll(tape);
        tape.empty();
        if (!sound) {
            latestFault = script.faultNumber;
            return FAULTY - script.faultPlace;
        }
        int done = 0;
        for (int act = 0; act < script.acts; act++) {
            if (perform(script.verbs[act], act * Script.WIDTH)) {
                done++;
            }
        }
        return done;
    }

    public int fault() {
        return latestFault;
    }

    public int way(int wave, int how) {
        if (!isWave(wave) || !below(how, 2)) {
            return BAD;
        }
        draft.sendOn(waves[wave], how);
        if (how == BACK && !draft.shareBySixteen()) {
            return STATE;
        }
        return draft.settle(waves[wave]) ? 1 : FULL;
    }

    public int lay(int wave, int sheet, int i) {
        if (!isWave(wave) || !isSheet(sheet)) {
            return BAD;
        }
        Sheet s = sheets[sheet];
        if (s.isMissing()) {
            return found(NULL);
        }
        if (!s.reaches(i, 2 * PLACES)) {
            return found(PLACE);
        }
        for (int k = 0; k < PLACES; k++) {
            draft.put(k, s.items[i + 2 * k], s.items[i + 2 * k + 1]);
        }
        return draft.settle(waves[wave]) ? fine(1) : BAD;
    }

    public int part(int wave, int place, int what) {
        if (!isWave(wave) || !below(place, PLACES) || !below(what, 2)) {
            return BAD;
        }
        return what == 0 ? waves[wave].re[place] : waves[wave].im[place];
    }

    public long bright(int wave, int place) {
        if (!isWave(wave)) {
            return BAD;
        }
        Wave w = waves[wave];
        if (place == NONE) {
            long all = 0;
            for (int k = 0; k < PLACES; k++) {
                all += brightOf(w.re[k], w.im[k]);
            }
            return all;
        }
        return below(place, PLACES) ? brightOf(w.re[place], w.im[place]) : BAD;
    }

    public int moved(int a, int b, int place) {
        if (!isWave(a) || !isWave(b) || !below(place, PLACES)) {
            return BAD;
        }
        long re = waves[b].re[place];
        long im = waves[b].im[place];
        for (int t = 0; t < 4; t++) {
            long r = turnedRe(waves[a].re[place], waves[a].im[place], t);
            long i = turnedIm(waves[a].re[place], waves[a].im[place], t);
            // Of two that point the same way the cross is 0 and the dot above 0, which a dark one never gives.
            if (r * im == i * re && r * re + i * im > 0) {
                return t;
            }
        }
        return NONE;
    }

    // ---- plates

    public int take(int plate, int a, int b, int step) {
        if (!isPlate(plate) || !isWave(a) || !isWave(b) || step < 1 || step > MOST_STEP) {
            return BAD;
        }
        plates[plate].keepFringes(waves[a], waves[b], step);
        return plates[plate].whiteOnes();
    }

    public int lose(int plate, int place) {
        if (!isPlate(plate) || !below(place, PLACES)) {
            return BAD;
        }
        Plate p = plates[plate];
        if (p.isMissing()) {
            return found(NULL);
        }
        int was = p.told(place);
        p.loseGrain(place);
        return fine(was);
    }

    public int grain(int plate, int place) {
        if (!isPlate(plate) || place < -1 || place >= PLACES) {
            return BAD;
        }
        Plate p = plates[plate];
        if (p.isMissing()) {
            return found(NULL);
        }
        return fine(place < 0 ? p.step : p.told(place));
    }

    public int read(int plate, int with, int to) {
        if (!isPlate(plate) || !isWave(with) || !isWave(to)) {
            return BAD;
        }
        Plate p = plates[plate];
        if (p.isMissing()) {
            return found(NULL);
        }
        Wave w = waves[with];
        for (int k = 0; k < PLACES; k++) {
            draft.put(k, p.weight(k) * w.re[k], p.weight(k) * w.im[k]);
        }
        return draft.settle(waves[to]) ? fine(1) : FULL;
    }

    public int parts(int o, int r, int k, int to) {
        if (!isWave(o) || !isWave(r) || !below(k, 4) || !isWave(to)) {
            return BAD;
        }
        for (int place = 0; place < PLACES; place++) {
            sendPart(waves[o], waves[r], k, place);
        }
        return draft.settle(waves[to]) ? 1 : FULL;
    }

    public int off(int p, int to) {
        if (!below(p, PLATES - 3) || !isWave(to)) {
            return BAD;
        }
        for (int k = 0; k < 4; k++) {
            if (plates[p + k].isMissing()) {
                return found(NULL);
            }
        }
        for (int k = 0; k < 4; k++) {
            if (plates[p + k].lostSet != 0 || plates[p + k].step != plates[p].step) {
                return STATE;
            }
        }
        for (int k = 0; k < PLACES; k++) {
            draft.put(k, plates[p].weight(k) - plates[p + 2].weight(k),
                    plates[p + 1].weight(k) - plates[p + 3].weight(k));
        }
        return draft.settle(waves[to]) ? fine(1) : FULL;
    }

    public long lack(int plate, int other, int with) {
        if (!isPlate(plate) || !isPlate(other) || !isWave(with)) {
            return BAD;
        }
        Plate p = plates[plate];
        Plate q = plates[other];
        if (p.isMissing() || q.isMissing()) {
            return found(NULL);
        }
        Wave w = waves[with];
        long all = 0;
        for (int k = 0; k < PLACES; k++) {
            all += Math.abs(p.weight(k) - q.weight(k)) * (Math.abs(w.re[k]) + Math.abs(w.im[k]));
        }
        latestFinding = 0;
        return all;
    }

    // ---- searches

    public int fits(int near, int sheet, int i, int k) {
        if (!below(near, 16) || !isSheet(sheet) || k < -2) {
            return BAD;
        }
        Sheet s = sheets[sheet];
        if (s.isMissing()) {
            return found(NULL);
        }
        if (!s.reaches(i, Rows.LENGTH)) {
            return found(PLACE);
        }
        return fine(k >= 0 ? rows.pick(near, s.items, i, k) : rows.howMany(near, s.items, i, k == -2));
    }

    public int mark(int plate, int mark, int what) {
        if (!isPlate(plate) || !below(mark, EVERYWHERE + 1) || !below(what, 2)) {
            return BAD;
        }
        Plate p = plates[plate];
        if (p.isMissing()) {
            return found(NULL);
        }
        int within = p.totalWithin(mark);
        // A SUM is twice what lies within the set, less what the whole plate has: so both order the MARKS alike.
        return fine(what == 0 ? 2 * within - p.totalWithin(EVERYWHERE) : marks.howManyReach(p, within));
    }

    public int aim(int p, int q, int u, int v, int what) {
        if (!below(p, 4) || !below(q, 4) || !below(u, 4) || !below(v, 4) || !below(what, 2)) {
            return BAD;
        }
        int most = -1;
        int least = 0;
        // RE and IM are free of each other, and each is farthest from 0 with all of one TURN and none of its opposite.
        for (int along = 0; along < 4; along += 2) {
            for (int across = 1; across < 4; across += 2) {
                int first = placesTurned(p + u, q + v, along);
                int second = placesTurned(p + u, q + v, across);
                int sent = square(Integer.bitCount(first)) + square(Integer.bitCount(second));
                if (sent > most || (sent == most && (first | second) < least)) {
                    most = sent;
                    least = first | second;
                }
            }
        }
        return what == 0 ? most : least;
    }

    // ---- asked

    public int kind(int plate) {
        if (!isPlate(plate)) {
            return BAD;
        }
        return plates[plate].isMissing() ? found(NULL) : fine(plates[plate].kindTold());
    }

    public int as(int plate, int kind) {
        if (!isPlate(plate) || kind < ANY || kind > BLIND) {
            return BAD;
        }
        Plate p = plates[plate];
        if (p.isMissing()) {
            return found(NULL);
        }
        return p.isOf(kind) ? fine(p.step) : found(KIND);
    }

    public int ask(int plate, int what) {
        if (!isPlate(plate) || !below(what, 2)) {
            return BAD;
        }
        asks.forget();
        Plate p = plates[plate];
        if (p.isMissing()) {
            return found(NULL);
        }
        return fine(what == 0 ? asks.sizeAsked(p, 0) : asks.markAsked(p, 0));
    }

    public int trace(int i) {
        return below(i, asks.begun) ? asks.bodies[i] : NONE;
    }

    public int count(int what) {
        switch (what) {
            case 0:
                return sheetsThere();
            case 1:
                return wavesLit();
            case 2:
                return platesOf(ANY);
            case 3:
                return platesOf(CLEAR);
            case 4:
                return platesOf(FULLY);
            case 5:
                return platesOf(TORN);
            case 6:
                return platesOf(BLIND);
            case 7:
                return tape.length;
            default:
                return BAD;
        }
    }

    public int status() {
        return latestFinding;
    }

    // ---- what several calls share

    private int found(int finding) {
        latestFinding = finding;
        return FOUND - finding;
    }

    private int fine(int answer) {
        latestFinding = 0;
        return answer;
    }

    private static boolean below(int number, int end) {
        return number >= 0 && number < end;
    }

    private static boolean isSheet(int number) {
        return below(number, SHEETS);
    }

    private static boolean isWave(int number) {
        return below(number, WAVES);
    }

    private static boolean isPlate(int number) {
        return below(number, PLATES);
    }

    private int sheetsThere() {
        int there = 0;
        for (int k = 0; k < SHEETS; k++) {
            if (!sheets[k].isMissing()) {
                there++;
            }
        }
        return there;
    }

    private int wavesLit() {
        int lit = 0;
        for (int k = 0; k < WAVES; k++) {
            if (waves[k].isLit()) {
                lit++;
            }
        }
        return lit;
    }

    private int platesOf(int kind) {
        int there = 0;
        for (int k = 0; k < PLATES; k++) {
            if (!plates[k].isMissing() && plates[k].isOf(kind)) {
                there++;
            }
        }
        return there;
    }

    private static int square(int a) {
        return a * a;
    }

    private static long brightOf(long re, long im) {
        return re * re + im * im;
    }

    private static long turnedRe(long re, long im, int turn) {
        switch (turn) {
            case 0:
                return re;
            case 1:
                return -im;
            case 2:
                return -re;
            default:
                return im;
        }
    }

    private static long turnedIm(long re, long im, int turn) {
        switch (turn) {
            case 0:
                return im;
            case 1:
                return re;
            case 2:
                return -im;
            default:
                return -re;
        }
    }

    /** The TURN that a wave leaning by p, q has at a place. */
    private static int lean(int p, int q, int place) {
        return (p * (place & 3) + q * (place >> 2)) & 3;
    }

    private static int placesTurned(int p, int q, int turn) {
        int set = 0;
        for (int k = 0; k < PLACES; k++) {
            if (lean(p, q, k) == turn) {
                set |= 1 << k;
            }
        }
        return set;
    }

    private void sendPart(Wave o, Wave r, int k, int place) {
        long ore = o.re[place];
        long oim = o.im[place];
        long rre = r.re[place];
        long rim = r.im[place];
        if (k == 3) {
            long re = rre * rre - rim * rim;
            long im = 2 * rre * rim;
            draft.put(place, re * ore + im * oim, im * ore - re * oim);
        } else if (k == 2) {
            long light = brightOf(rre, rim);
            draft.put(place, light * ore, light * oim);
        } else {
            long light = k == 0 ? brightOf(rre, rim) : brightOf(ore, oim);
            draft.put(place, light * rre, light * rim);
        }
    }

    /** Does one act of a text, its numbers from at on; false where it would be FULL. */
    private boolean perform(int verb, int at) {
        int[] numbers = script.numbers;
        Wave wave = waves[numbers[at]];
        draft.start(wave);
        switch (verb) {
            case Script.POINT:
                draft.addTurned(placeTold(at), numbers[at + 3], 0, numbers[at + 4]);
                break;
            case Script.PLANE:
                draft.addPlane(numbers[at + 1], numbers[at + 2], numbers[at + 3], numbers[at + 4]);
                break;
            case Script.DIM:
                draft.put(placeTold(at), 0, 0);
                break;
            case Script.TURN:
                draft.turn(placeTold(at), numbers[at + 3]);
                break;
            case Script.ADD:
                draft.addWave(waves[numbers[at + 1]]);
                break;
            case Script.WAY:
                draft.sendOn(wave, THERE);
                break;
            default:
                draft.darken();
                break;
        }
        return draft.settle(wave);
    }

    private int placeTold(int at) {
        return script.numbers[at + 1] + 4 * script.numbers[at + 2];
    }

    /** ITEMS of one LANE; the row is made once and used for every sheet that comes in place of another. */
    private static final class Sheet {
        static final int MISSING = -1;

        final int[] items = new int[MOST_ITEMS];
        int lane = MISSING;
        int size = 0;

        boolean isMissing() {
            return lane == MISSING;
        }

        void become(int newLane, int newSize) {
            Arrays.fill(items, 0);
            lane = newLane;
            size = newSize;
        }

        void goMissing() {
            lane = MISSING;
            size = 0;
        }

        /** Looked at by a difference, as a sum of two great numbers would wrap around. */
        boolean reaches(int from, int n) {
            return from >= 0 && n >= 0 && from <= size && n <= size - from;
        }

        int cut(int v) {
            if (lane == 0) {
                return (byte) v;
            }
            return lane == 1 ? (short) v : v;
        }
    }

    /** A NUMBER on each of 16 PLACES. */
    private static final class Wave {
        final int[] re = new int[PLACES];
        final int[] im = new int[PLACES];

        boolean isLit() {
            for (int k = 0; k < PLACES; k++) {
                if (re[k] != 0 || im[k] != 0) {
                    return true;
                }
            }
            return false;
        }
    }

    /** What a wave is to become, kept apart until it is known that no part is beyond what a part may be. */
    private static final class Draft {
        final long[] re = new long[PLACES];
        final long[] im = new long[PLACES];

        void darken() {
            Arrays.fill(re, 0);
            Arrays.fill(im, 0);
        }

        void start(Wave w) {
            for (int k = 0; k < PLACES; k++) {
                put(k, w.re[k], w.im[k]);
            }
        }

        void put(int place, long r, long i) {
            re[place] = r;
            im[place] = i;
        }

        void addTurned(int place, long r, long i, int turn) {
            re[place] += turnedRe(r, i, turn);
            im[place] += turnedIm(r, i, turn);
        }

        void addPlane(int p, int q, int strength, int turn) {
            for (int k = 0; k < PLACES; k++) {
                addTurned(k, strength, 0, (turn + lean(p, q, k)) & 3);
            }
        }

        void addWave(Wave w) {
            for (int k = 0; k < PLACES; k++) {
                addTurned(k, w.re[k], w.im[k], 0);
            }
        }

        void turn(int place, int turn) {
            put(place, turnedRe(re[place], im[place], turn), turnedIm(re[place], im[place], turn));
        }

        void sendOn(Wave w, int how) {
            darken();
            for (int far = 0; far < PLACES; far++) {
                for (int near = 0; near < PLACES; near++) {
                    int turn = lean(far & 3, far >> 2, near);
                    addTurned(far, w.re[near], w.im[near], how == THERE ? turn : -turn & 3);
                }
            }
        }

        boolean shareBySixteen() {
            for (int k = 0; k < PLACES; k++) {
                if (re[k] % 16 != 0 || im[k] % 16 != 0) {
                    return false;
                }
                put(k, re[k] / 16, im[k] / 16);
            }
            return true;
        }

        boolean settle(Wave w) {
            for (int k = 0; k < PLACES; k++) {
                if (Math.abs(re[k]) > MOST_PART || Math.abs(im[k]) > MOST_PART) {
                    return false;
                }
            }
            for (int k = 0; k < PLACES; k++) {
                w.re[k] = (int) re[k];
                w.im[k] = (int) im[k];
            }
            return true;
        }
    }

    /** 16 GRAINS and a STEP; a STEP of 0 says that the plate is missing, as none that is there has it. */
    private static final class Plate {
        /** A GRAIN that is LOST stays here as 0, which is what it counts as in every sum. */
        final int[] grains = new int[PLACES];
        int lostSet = 0;
        int step = 0;

        boolean isMissing() {
            return step == 0;
        }

        /** The step is known to be above 0. */
        void keepFringes(Wave a, Wave b, int newStep) {
            step = Math.max(newStep, 1);
            lostSet = 0;
            for (int k = 0; k < PLACES; k++) {
                long light = brightOf((long) a.re[k] + b.re[k], (long) a.im[k] + b.im[k]);
                grains[k] = (int) Math.min(light / step, WHITE);
            }
        }

        void loseGrain(int place) {
            grains[place] = 0;
            lostSet |= 1 << place;
        }

        int told(int place) {
            return (lostSet >> place & 1) == 1 ? NONE : grains[place];
        }

        int whiteOnes() {
            int n = 0;
            for (int k = 0; k < PLACES; k++) {
                if (grains[k] == WHITE) {
                    n++;
                }
            }
            return n;
        }

        int lostOnes() {
            return Integer.bitCount(lostSet);
        }

        long weight(int place) {
            return (long) grains[place] * step;
        }

        int totalWithin(int set) {
            int sum = 0;
            for (int k = 0; k < PLACES; k++) {
                if ((set >> k & 1) == 1) {
                    sum += grains[k];
                }
            }
            return sum;
        }

        int greatest() {
            int most = 0;
            for (int k = 0; k < PLACES; k++) {
                most = Math.max(most, grains[k]);
            }
            return most;
        }

        int kindTold() {
            if (lostSet != 0) {
                return lostOnes() >= BLIND_FROM ? BLIND : TORN;
            }
            return whiteOnes() == 0 ? FULLY : CLEAR;
        }

        boolean isOf(int kind) {
            int told = kindTold();
            return kind == ANY || kind == told || kind == kindAbove(told);
        }

        static int kindAbove(int kind) {
            switch (kind) {
                case FULLY:
                    return CLEAR;
                case BLIND:
                    return TORN;
                default:
                    return ANY;
            }
        }
    }

    /** The bytes that were fed, cut into TOKENS one by one. */
    private static final class Tape {
        static final int MOST = 400, MOST_FIGURES = 5;
        static final int END = 0, NAME = 1, NUMBER = 2, SIGN = 3, NO_TOKEN = 4;

        final byte[] bytes = new byte[MOST];
        int length = 0;
        int start = 0;
        int end = 0;
        int sort = END;
        int value = 0;

        boolean append(long w, int n) {
            if (n > MOST - length) {
                return false;
            }
            for (int k = n - 1; k >= 0; k--) {
                bytes[length] = (byte) (w >>> 8 * k);
                length++;
            }
            return true;
        }

        void empty() {
            length = 0;
        }

        void rewind() {
            end = 0;
        }

        void next() {
            start = end;
            while (start < length && (bytes[start] == ' ' || bytes[start] == '\n')) {
                start++;
            }
            end = start;
            if (start >= length) {
                sort = END;
            } else if (hasLetter(start)) {
                takeName();
            } else if (hasFigure(start)) {
                takeNumber();
            } else {
                sort = bytes[start] == ';' ? SIGN : NO_TOKEN;
                end = start + 1;
            }
        }

        void takeName() {
            sort = NAME;
            while (end < length && hasLetter(end)) {
                end++;
            }
        }

        void takeNumber() {
            value = 0;
            while (end < length && hasFigure(end)) {
                // A longer row of figures is no NUMBER, so its value may stay unfinished.
                if (end - start < MOST_FIGURES) {
                    value = 10 * value + bytes[end] - '0';
                }
                end++;
            }
            sort = end - start > MOST_FIGURES ? NO_TOKEN : NUMBER;
        }

        boolean hasLetter(int at) {
            return bytes[at] >= 'a' && bytes[at] <= 'z';
        }

        boolean hasFigure(int at) {
            return bytes[at] >= '0' && bytes[at] <= '9';
        }

        boolean spells(String word) {
            if (word.length() != end - start) {
                return false;
            }
            for (int k = 0; k < word.length(); k++) {
                if (bytes[start + k] != word.charAt(k)) {
                    return false;
                }
            }
            return true;
        }
    }

    /** The acts of a text, kept until all of it is read: nothing is done of a text with a FAULT. */
    private static final class Script {
        static final int POINT = 0, PLANE = 1, DIM = 2, TURN = 3, ADD = 4, WAY = 5, WIPE = 6, VERBS = 7;
        static final int WIDTH = 5;
        /** The shortest act, "way0;", has 5 bytes. */
        static final int MOST_ACTS = Tape.MOST / 5;
        static final int CANNOT_STAND = 1, NOT_AS_TOLD = 2;
        private static final int[] SOURCE_MOST = {WAVES - 1, 3, 3, 1000, 3};
        private static final int[] DIM_MOST = {WAVES - 1, 3, 3};
        private static final int[] TURN_MOST = {WAVES - 1, 3, 3, 3};
        private static final int[] ADD_MOST = {WAVES - 1, WAVES - 1};
        private static final int[] WAVE_MOST = {WAVES - 1};

        final int[] verbs = new int[MOST_ACTS];
        final int[] numbers = new int[MOST_ACTS * WIDTH];
        int acts = 0;
        int faultNumber = 0;
        int faultPlace = 0;

        boolean readAll(Tape tape) {
            acts = 0;
            tape.rewind();
            tape.next();
            while (acts < MOST_ACTS && tape.sort != Tape.END) {
                if (!readAct(tape)) {
                    return false;
                }
                acts++;
                tape.next();
            }
            return true;
        }

        boolean readAct(Tape tape) {
            int verb = verbOf(tape);
            if (verb == VERBS) {
                return faulty(tape, CANNOT_STAND);
            }
            verbs[acts] = verb;
            int[] most = mostOf(verb);
            for (int k = 0; k < most.length; k++) {
                tape.next();
                if (tape.sort != Tape.NUMBER) {
                    return faulty(tape, CANNOT_STAND);
                }
                if (tape.value > most[k]) {
                    return faulty(tape, NOT_AS_TOLD);
                }
                numbers[acts * WIDTH + k] = tape.value;
            }
            tape.next();
            return tape.sort == Tape.SIGN || faulty(tape, CANNOT_STAND);
        }

        boolean faulty(Tape tape, int number) {
            faultNumber = number;
            faultPlace = tape.start;
            return false;
        }

        static int verbOf(Tape tape) {
            for (int verb = 0; verb < VERBS; verb++) {
                if (tape.sort == Tape.NAME && tape.spells(wordOf(verb))) {
                    return verb;
                }
            }
            return VERBS;
        }

        static String wordOf(int verb) {
            switch (verb) {
                case POINT:
                    return "point";
                case PLANE:
                    return "plane";
                case DIM:
                    return "dim";
                case TURN:
                    return "turn";
                case ADD:
                    return "add";
                case WAY:
                    return "way";
                default:
                    return "wipe";
            }
        }

        /** The greatest that each NUMBER of an act may be. */
        static int[] mostOf(int verb) {
            switch (verb) {
                case POINT:
                case PLANE:
                    return SOURCE_MOST;
                case DIM:
                    return DIM_MOST;
                case TURN:
                    return TURN_MOST;
                case ADD:
                    return ADD_MOST;
                default:
                    return WAVE_MOST;
            }
        }
    }

    /** ALL THAT FIT: the rows of four that have a told NEAR set, tried one by one. */
    private static final class Rows {
        static final int LENGTH = 4, DARK = -1;
        private static final int[] UNIT_RE = {1, 0, -1, 0};
        private static final int[] UNIT_IM = {0, 1, 0, -1};

        final int[] turns = new int[LENGTH];
        int number = 0;

        int pick(int near, int[] told, int from, int k) {
            int before = 0;
            for (int choice = 0; choice < choices(near); choice++) {
                spread(near, choice);
                if (sends(told, from)) {
                    if (before == k) {
                        return number;
                    }
                    before++;
                }
            }
            return NONE;
        }

        int howMany(int near, int[] told, int from, boolean upToLikes) {
            int n = 0;
            for (int choice = 0; choice < choices(near); choice++) {
                spread(near, choice);
                if (sends(told, from)) {
                    n++;
                }
            }
            // A TURN for all keeps every brightness and moves every row but the dark one: LIKES come in fours.
            return upToLikes && near != 0 ? n / 4 : n;
        }

        static int choices(int near) {
            return 1 << 2 * Integer.bitCount(near);
        }

        /** The lightest code takes the lowest bits of the choice, so that the numbers rise as the choices do. */
        void spread(int near, int choice) {
            int rest = choice;
            int worth = 1;
            number = 0;
            for (int x = LENGTH - 1; x >= 0; x--) {
                turns[x] = DARK;
                if ((near >> x & 1) == 1) {
                    turns[x] = rest & 3;
                    number += worth * (turns[x] + 1);
                    rest >>= 2;
                }
                worth *= 5;
            }
        }

        boolean sends(int[] told, int from) {
            for (int u = 0; u < LENGTH; u++) {
                if (farBright(u) != told[from + u]) {
                    return false;
                }
            }
            return true;
        }

        int farBright(int u) {
            int re = 0;
            int im = 0;
            for (int x = 0; x < LENGTH; x++) {
                if (turns[x] != DARK) {
                    int turn = (turns[x] + u * x) & 3;
                    re += UNIT_RE[turn];
                    im += UNIT_IM[turn];
                }
            }
            return re * re + im * im;
        }
    }

    /** How many MARKS reach a sum: two rising rows of 256 sums each say it without all 65536 being tried. */
    private static final class Marks {
        static final int HALF = 8, SUMS = 256;

        final int[] lower = new int[SUMS];
        final int[] upper = new int[SUMS];
        final int[] spare = new int[SUMS];

        int howManyReach(Plate p, int sum) {
            sumUp(p, 0, lower);
            sumUp(p, HALF, upper);
            int n = 0;
            int first = SUMS;
            for (int k = 0; k < SUMS; k++) {
                while (first > 0 && lower[k] + upper[first - 1] >= sum) {
                    first--;
                }
                n += SUMS - first;
            }
            return n;
        }

        void sumUp(Plate p, int from, int[] sums) {
            sums[0] = 0;
            for (int k = 0; k < HALF; k++) {
                merge(sums, 1 << k, p.grains[from + k]);
            }
        }

        /** The first n sums and the same ones lifted, as one rising row: the lifted ones are never ahead of the plain ones. */
        void merge(int[] sums, int n, int lift) {
            System.arraycopy(sums, 0, spare, 0, n);
            int plain = 0;
            int lifted = 0;
            for (int k = 0; k < 2 * n; k++) {
                if (plain < n && spare[plain] <= spare[lifted] + lift) {
                    sums[k] = spare[plain];
                    plain++;
                } else {
                    sums[k] = spare[lifted] + lift;
                    lifted++;
                }
            }
        }
    }

    /** ASKS of plates by BODIES, and THE TRACE that these leave. */
    private static final class Asks {
        static final int MOST_BODIES = 16, DEEPEST = 8;

        final int[] bodies = new int[MOST_BODIES];
        int begun = 0;

        void forget() {
            begun = 0;
        }

        void begin(int body) {
            if (begun < MOST_BODIES) {
                bodies[begun] = body;
                begun++;
            }
        }

        /** SIZE and MARK ask each other: the depth bars a round without end, which no KIND has. */
        int sizeAsked(Plate p, int depth) {
            if (depth > DEEPEST) {
                return 0;
            }
            switch (p.kindTold()) {
                case CLEAR:
                    return sizeOfClear(p);
                case FULLY:
                    return sizeOfFully(p);
                case TORN:
                    return sizeOfTorn(p, depth);
                case BLIND:
                    return sizeOfBlind(p, depth);
                default:
                    return sizeLent(p);
            }
        }

        int markAsked(Plate p, int depth) {
            if (depth > DEEPEST) {
                return 0;
            }
            switch (p.kindTold()) {
                case CLEAR:
                    return markOfClear(p);
                case FULLY:
                    return markOfFully(p, depth);
                case TORN:
                case BLIND:
                    return markOfTorn(p);
                default:
                    return markLent(p);
            }
        }

        int sizeLent(Plate p) {
            begin(10);
            return p.totalWithin(EVERYWHERE);
        }

        int sizeOfClear(Plate p) {
            begin(11);
            return sizeLent(p) + p.step;
        }

        int sizeOfFully(Plate p) {
            begin(12);
            return 2 * sizeOfClear(p);
        }

        int sizeOfTorn(Plate p, int depth) {
            begin(13);
            int size = sizeLent(p);
            return size - markAsked(p, depth + 1);
        }

        int sizeOfBlind(Plate p, int depth) {
            begin(14);
            return sizeOfTorn(p, depth) + 1000;
        }

        int markLent(Plate p) {
            begin(20);
            return p.greatest();
        }

        int markOfClear(Plate p) {
            begin(21);
            return markLent(p) + 1000;
        }

        int markOfFully(Plate p, int depth) {
            begin(22);
            int mark = markOfClear(p);
            return mark + sizeAsked(p, depth + 1);
        }

        int markOfTorn(Plate p) {
            begin(23);
            return p.lostOnes();
        }
    }
}
