import java.util.ArrayList;
import java.util.List;
import java.util.TreeMap;
import java.util.regex.Matcher;
import java.util.regex.Pattern;

/** The document once more, in the longest way: everything is tried, nothing is kept that can be worked out anew. */
final class PlainModel {
    private static final Pattern TOKEN = Pattern.compile("[ \\n]*(?:([a-z]+)|([0-9]+)|(;)|([^ \\n])|$)", Pattern.DOTALL);

    /** A NUMBER; turned by multiplying with i. */
    record Num(long re, long im) {
        Num plus(Num b) {
            return new Num(re + b.re, im + b.im);
        }

        Num times(Num b) {
            return new Num(re * b.re - im * b.im, re * b.im + im * b.re);
        }

        Num about() {
            return new Num(re, -im);
        }

        Num by(long k) {
            return new Num(k * re, k * im);
        }

        Num turn(int t) {
            Num n = this;
            for (int k = 0; k < t; k++) {
                n = n.times(new Num(0, 1));
            }
            return n;
        }

        long bright() {
            return re * re + im * im;
        }

        boolean allowed() {
            return re >= -1000000 && re <= 1000000 && im >= -1000000 && im <= 1000000;
        }
    }

    private record Sheet(int lane, int[] items) {
    }

    /** A grain that is null is LOST. */
    private record Plate(Integer[] grains, int step) {
    }

    private record Act(String name, List<Integer> numbers) {
    }

    private final TreeMap<Integer, Sheet> sheets = new TreeMap<>();
    private final TreeMap<Integer, Plate> plates = new TreeMap<>();
    private final Num[][] waves = new Num[8][16];
    private final StringBuilder tape = new StringBuilder();
    private final List<Integer> trace = new ArrayList<>();
    private int fault = 0;
    private int status = 0;

    PlainModel() {
        for (Num[] wave : waves) {
            java.util.Arrays.fill(wave, new Num(0, 0));
        }
    }

    private static boolean in(int a, int from, int to) {
        return from <= a && a <= to;
    }

    private int found(int number) {
        status = number;
        return -1000010 - number;
    }

    private int ok(int answer) {
        status = 0;
        return answer;
    }

    private boolean become(int wave, Num[] next) {
        for (Num n : next) {
            if (!n.allowed()) {
                return false;
            }
        }
        waves[wave] = next;
        return true;
    }

    int sheet(int sheet, int lane, int n) {
        if (!in(sheet, 0, 7) || !in(lane, 0, 2) || n > 64) {
            return Check.BAD;
        }
        if (n < 0) {
            return found(4);
        }
        sheets.put(sheet, new Sheet(lane, new int[n]));
        return ok(n);
    }

    int set(int sheet, int i, int v) {
        if (!in(sheet, 0, 7)) {
            return Check.BAD;
        }
        Sheet s = sheets.get(sheet);
        if (s == null) {
            return found(1);
        }
        if (!in(i, 0, s.items.length - 1)) {
            return found(2);
        }
        int shift = s.lane == 0 ? 24 : s.lane == 1 ? 16 : 0;
        s.items[i] = v << shift >> shift;
        return ok(s.items[i]);
    }

    int copy(int a, int i, int b, int j, int n) {
        if (!in(a, 0, 7) || !in(b, 0, 7)) {
            return Check.BAD;
        }
        Sheet from = sheets.get(a);
        Sheet to = sheets.get(b);
        if (from == null || to == null) {
            return found(1);
        }
        if (from.lane != to.lane) {
            return found(5);
        }
        if (i < 0 || j < 0 || n < 0 || (long) i + n > from.items.length || (long) j + n > to.items.length) {
            return found(2);
        }
        int[] were = from.items.clone();
        for (int k = 0; k < n; k++) {
            to.items[j + k] = were[i + k];
        }
        return ok(n);
    }

    int drop(int sheet) {
        if (!in(sheet, 0, 7)) {
            return Check.BAD;
        }
        Sheet s = sheets.remove(sheet);
        return s == null ? found(1) : ok(s.items.length);
    }

    int feed(long w, int n) {
        if (!in(n, 1, 8)) {
            return Check.BAD;
        }
        if (tape.length() + n > 400) {
            return Check.FULL;
        }
        for (int k = n - 1; k >= 0; k--) {
            tape.append((char) (w >> 8 * k & 255));
        }
        return tape.length();
    }

    int run() {
        String text = tape.toString();
        tape.setLength(0);
        List<Act> acts = new ArrayList<>();
        int place = parse(text, acts);
        if (place >= 0) {
            return -1000100 - place;
        }
        int done = 0;
        for (Act act : acts) {
            done += perform(act) ? 1 : 0;
        }
        return done;
    }

    private static int[] tops(String name) {
        switch (name) {
            case "point":
            case "plane":
                return new int[] {7, 3, 3, 1000, 3};
            case "dim":
                return new int[] {7, 3, 3};
            case "turn":
                return new int[] {7, 3, 3, 3};
            case "add":
                return new int[] {7, 7};
            case "way":
            case "wipe":
                return new int[] {7};
            default:
                return null;
        }
    }

    /** The place of the first FAULT, or -1. */
    private int parse(String text, List<Act> acts) {
        Matcher m = TOKEN.matcher(text);
        int[] tops = null;
        Act act = null;
        while (m.find()) {
            int at = m.end();
            for (int g = 1; g <= 4; g++) {
                at = m.group(g) == null ? at : m.start(g);
            }
            int number = 1;
            if (act == null) {
                if (at == text.length()) {
                    return -1;
                }
                tops = m.group(1) == null ? null : tops(m.group(1));
                if (tops != null) {
                    act = new Act(m.group(1), new ArrayList<>());
                    continue;
                }
            } else if (act.numbers.size() == tops.length) {
                if (m.group(3) != null) {
                    acts.add(act);
                    act = null;
                    continue;
                }
            } else if (m.group(2) != null && m.group(2).length() <= 5) {
                int value = Integer.parseInt(m.group(2));
                if (value <= tops[act.numbers.size()]) {
                    act.numbers.add(value);
                    continue;
                }
                number = 2;
            }
            fault = number;
            return at;
        }
        throw new IllegalStateException("the end is always matched");
    }

    private boolean perform(Act act) {
        List<Integer> n = act.numbers;
        int wave = n.get(0);
        Num[] next = waves[wave].clone();
        for (int k = 0; k < 16; k++) {
            int x = k % 4;
            int y = k / 4;
            boolean here = n.size() > 2 && n.get(1) == x && n.get(2) == y;
            if (act.name.equals("plane")) {
                next[k] = next[k].plus(new Num(n.get(3), 0).turn((n.get(4) + n.get(1) * x + n.get(2) * y) % 4));
            } else if (act.name.equals("point") && here) {
                next[k] = next[k].plus(new Num(n.get(3), 0).turn(n.get(4)));
            } else if (act.name.equals("dim") && here || act.name.equals("wipe")) {
                next[k] = new Num(0, 0);
            } else if (act.name.equals("turn") && here) {
                next[k] = next[k].turn(n.get(3));
            } else if (act.name.equals("add")) {
                next[k] = next[k].plus(waves[n.get(1)][k]);
            } else if (act.name.equals("way")) {
                next[k] = sum(waves[wave], k, false);
            }
        }
        return become(wave, next);
    }

    private static Num sum(Num[] wave, int k, boolean back) {
        Num all = new Num(0, 0);
        for (int near = 0; near < 16; near++) {
            int t = ((k % 4) * (near % 4) + (k / 4) * (near / 4)) % 4;
            all = all.plus(wave[near].turn(back ? (4 - t) % 4 : t));
        }
        return all;
    }

    int fault() {
        return fault;
    }

    int way(int wave, int how) {
        if (!in(wave, 0, 7) || !in(how, 0, 1)) {
            return Check.BAD;
        }
        Num[] next = new Num[16];
        boolean whole = true;
        for (int k = 0; k < 16; k++) {
            next[k] = sum(waves[wave], k, how == 1);
            if (how == 1) {
                whole &= next[k].re % 16 == 0 && next[k].im % 16 == 0;
                next[k] = new Num(next[k].re / 16, next[k].im / 16);
            }
        }
        if (!whole) {
            return Check.STATE;
        }
        return become(wave, next) ? 1 : Check.FULL;
    }

    int lay(int wave, int sheet, int i) {
        if (!in(wave, 0, 7) || !in(sheet, 0, 7)) {
            return Check.BAD;
        }
        Sheet s = sheets.get(sheet);
        if (s == null) {
            return found(1);
        }
        if (i < 0 || i + 32L > s.items.length) {
            return found(2);
        }
        Num[] next = new Num[16];
        for (int k = 0; k < 16; k++) {
            next[k] = new Num(s.items[i + 2 * k], s.items[i + 2 * k + 1]);
        }
        return become(wave, next) ? ok(1) : Check.BAD;
    }

    int part(int wave, int place, int what) {
        if (!in(wave, 0, 7) || !in(place, 0, 15) || !in(what, 0, 1)) {
            return Check.BAD;
        }
        return (int) (what == 0 ? waves[wave][place].re : waves[wave][place].im);
    }

    long bright(int wave, int place) {
        if (!in(wave, 0, 7) || place != Check.NONE && !in(place, 0, 15)) {
            return Check.BAD;
        }
        long all = 0;
        for (int k = 0; k < 16; k++) {
            all += place == k || place == Check.NONE ? waves[wave][k].bright() : 0;
        }
        return all;
    }

    int moved(int a, int b, int place) {
        if (!in(a, 0, 7) || !in(b, 0, 7) || !in(place, 0, 15)) {
            return Check.BAD;
        }
        Num one = waves[a][place];
        Num other = waves[b][place];
        if (one.bright() == 0 || other.bright() == 0) {
            return Check.NONE;
        }
        for (int t = 0; t < 4; t++) {
            // The share p by q is the other's size by that of the first, along whichever part is not 0.
            Num turned = one.turn(t);
            long p = Math.abs(other.re) + Math.abs(other.im);
            long q = Math.abs(turned.re) + Math.abs(turned.im);
            if (turned.by(p).equals(other.by(q))) {
                return t;
            }
        }
        return Check.NONE;
    }

    int take(int plate, int a, int b, int step) {
        if (!in(plate, 0, 5) || !in(a, 0, 7) || !in(b, 0, 7) || !in(step, 1, 100000)) {
            return Check.BAD;
        }
        Integer[] grains = new Integer[16];
        int full = 0;
        for (int k = 0; k < 16; k++) {
            grains[k] = (int) Math.min(255, waves[a][k].plus(waves[b][k]).bright() / step);
            full += grains[k] == 255 ? 1 : 0;
        }
        plates.put(plate, new Plate(grains, step));
        return full;
    }

    int lose(int plate, int place) {
        if (!in(plate, 0, 5) || !in(place, 0, 15)) {
            return Check.BAD;
        }
        int was = grain(plate, place);
        if (plates.get(plate) != null) {
            plates.get(plate).grains[place] = null;
        }
        return was;
    }

    int grain(int plate, int place) {
        if (!in(plate, 0, 5) || !in(place, -1, 15)) {
            return Check.BAD;
        }
        Plate p = plates.get(plate);
        if (p == null) {
            return found(1);
        }
        if (place == -1) {
            return ok(p.step);
        }
        return ok(p.grains[place] == null ? Check.NONE : p.grains[place]);
    }

    private static long weight(Plate p, int k) {
        return p.grains[k] == null ? 0 : (long) p.grains[k] * p.step;
    }

    int read(int plate, int with, int to) {
        if (!in(plate, 0, 5) || !in(with, 0, 7) || !in(to, 0, 7)) {
            return Check.BAD;
        }
        Plate p = plates.get(plate);
        if (p == null) {
            return found(1);
        }
        Num[] next = new Num[16];
        for (int k = 0; k < 16; k++) {
            next[k] = waves[with][k].by(weight(p, k));
        }
        return become(to, next) ? ok(1) : Check.FULL;
    }

    int parts(int o, int r, int k, int to) {
        if (!in(o, 0, 7) || !in(r, 0, 7) || !in(k, 0, 3) || !in(to, 0, 7)) {
            return Check.BAD;
        }
        Num[] next = new Num[16];
        for (int x = 0; x < 16; x++) {
            Num a = waves[o][x];
            Num b = waves[r][x];
            Num[] four = {b.by(b.bright()), b.by(a.bright()), a.by(b.bright()), b.times(b).times(a.about())};
            next[x] = four[k];
        }
        return become(to, next) ? 1 : Check.FULL;
    }

    int off(int p, int to) {
        if (!in(p, 0, 2) || !in(to, 0, 7)) {
            return Check.BAD;
        }
        Plate[] four = new Plate[4];
        for (int k = 0; k < 4; k++) {
            four[k] = plates.get(p + k);
            if (four[k] == null) {
                return found(1);
            }
        }
        for (Plate one : four) {
            if (List.of(3, 4).contains(kindOf(one)) || one.step != four[0].step) {
                return Check.STATE;
            }
        }
        Num[] next = new Num[16];
        for (int k = 0; k < 16; k++) {
            long re = (four[0].grains[k] - four[2].grains[k]) * (long) four[0].step;
            long im = (four[1].grains[k] - four[3].grains[k]) * (long) four[0].step;
            next[k] = new Num(re, im);
        }
        return become(to, next) ? ok(1) : Check.FULL;
    }

    long lack(int plate, int other, int with) {
        if (!in(plate, 0, 5) || !in(other, 0, 5) || !in(with, 0, 7)) {
            return Check.BAD;
        }
        Plate p = plates.get(plate);
        Plate q = plates.get(other);
        if (p == null || q == null) {
            return found(1);
        }
        long all = 0;
        for (int k = 0; k < 16; k++) {
            Num n = waves[with][k];
            all += Math.abs(weight(p, k) - weight(q, k)) * (Math.abs(n.re) + Math.abs(n.im));
        }
        ok(0);
        return all;
    }

    int fits(int near, int sheet, int i, int k) {
        if (!in(near, 0, 15) || !in(sheet, 0, 7) || k < -2) {
            return Check.BAD;
        }
        Sheet s = sheets.get(sheet);
        if (s == null) {
            return found(1);
        }
        if (i < 0 || i + 4L > s.items.length) {
            return found(2);
        }
        List<Integer> all = new ArrayList<>();
        int likes = 0;
        for (int row = 0; row < 625; row++) {
            Num[] numbers = rowOf(row);
            boolean fits = true;
            for (int x = 0; x < 4; x++) {
                Num far = new Num(0, 0);
                for (int y = 0; y < 4; y++) {
                    far = far.plus(numbers[y].turn(x * y % 4));
                }
                fits &= far.bright() == s.items[i + x];
                fits &= (numbers[x].bright() != 0) == ((near & 1 << x) != 0);
            }
            if (fits) {
                boolean seen = false;
                for (int t = 1; t < 4; t++) {
                    seen |= all.contains(turnedRow(numbers, t));
                }
                likes += seen ? 0 : 1;
                all.add(row);
            }
        }
        if (k < 0) {
            return ok(k == -1 ? all.size() : likes);
        }
        return ok(k < all.size() ? all.get(k) : Check.NONE);
    }

    private static Num[] rowOf(int row) {
        Num[] numbers = new Num[4];
        int rest = row;
        for (int x = 3; x >= 0; x--) {
            numbers[x] = rest % 5 == 0 ? new Num(0, 0) : new Num(1, 0).turn(rest % 5 - 1);
            rest /= 5;
        }
        return numbers;
    }

    private static int turnedRow(Num[] numbers, int t) {
        int row = 0;
        for (Num n : numbers) {
            int code = 0;
            for (int c = 0; c < 4; c++) {
                code = new Num(1, 0).turn(c).equals(n.turn(t)) ? c + 1 : code;
            }
            row = 5 * row + code;
        }
        return row;
    }

    private static int sumOf(Plate p, int mark) {
        int sum = 0;
        for (int k = 0; k < 16; k++) {
            if (p.grains[k] != null) {
                sum += (mark & 1 << k) != 0 ? p.grains[k] : -p.grains[k];
            }
        }
        return sum;
    }

    int mark(int plate, int mark, int what) {
        if (!in(plate, 0, 5) || !in(mark, 0, 65535) || !in(what, 0, 1)) {
            return Check.BAD;
        }
        Plate p = plates.get(plate);
        if (p == null) {
            return found(1);
        }
        int sum = sumOf(p, mark);
        int others = 0;
        for (int other = 0; what == 1 && other < 65536; other++) {
            others += sumOf(p, other) >= sum ? 1 : 0;
        }
        return ok(what == 0 ? sum : others);
    }

    int aim(int p, int q, int u, int v, int what) {
        if (!in(p, 0, 3) || !in(q, 0, 3) || !in(u, 0, 3) || !in(v, 0, 3) || !in(what, 0, 1)) {
            return Check.BAD;
        }
        Num[] sent = new Num[16];
        for (int k = 0; k < 16; k++) {
            sent[k] = new Num(1, 0).turn((p * (k % 4) + q * (k / 4)) % 4).turn((u * (k % 4) + v * (k / 4)) % 4);
        }
        long most = -1;
        int least = 0;
        for (int set = 0; set < 65536; set++) {
            long re = 0;
            long im = 0;
            for (int k = 0; k < 16; k++) {
                re += (set >> k & 1) * sent[k].re;
                im += (set >> k & 1) * sent[k].im;
            }
            if (re * re + im * im > most) {
                most = re * re + im * im;
                least = set;
            }
        }
        return what == 0 ? (int) most : least;
    }

    private static int kindOf(Plate p) {
        int lost = 0;
        int full = 0;
        for (Integer grain : p.grains) {
            lost += grain == null ? 1 : 0;
            full += grain != null && grain == 255 ? 1 : 0;
        }
        boolean[] is = {true, lost == 0, lost == 0 && full == 0, lost > 0, lost >= 8};
        int told = 0;
        for (int k = 0; k < 5; k++) {
            told = is[k] ? k : told;
        }
        return told;
    }

    private static boolean isA(Plate p, int kind) {
        return List.of("01", "012", "03", "034").get(kindOf(p) - 1).indexOf('0' + kind) >= 0;
    }

    int kind(int plate) {
        if (!in(plate, 0, 5)) {
            return Check.BAD;
        }
        return plates.get(plate) == null ? found(1) : ok(kindOf(plates.get(plate)));
    }

    int as(int plate, int kind) {
        if (!in(plate, 0, 5) || !in(kind, 0, 4)) {
            return Check.BAD;
        }
        Plate p = plates.get(plate);
        if (p == null) {
            return found(1);
        }
        return isA(p, kind) ? ok(p.step) : found(3);
    }

    int ask(int plate, int what) {
        if (!in(plate, 0, 5) || !in(what, 0, 1)) {
            return Check.BAD;
        }
        trace.clear();
        Plate p = plates.get(plate);
        return p == null ? found(1) : ok(asked(p, what));
    }

    private int asked(Plate p, int what) {
        int[] size = {10, 11, 12, 13, 14};
        int[] mark = {20, 21, 22, 23, 23};
        return body(p, what == 0 ? size[kindOf(p)] : mark[kindOf(p)]);
    }

    private int body(Plate p, int number) {
        trace.add(number);
        int result = 0;
        switch (number) {
            case 10:
                return sumOf(p, 65535);
            case 11:
                return body(p, 10) + p.step;
            case 12:
                return body(p, 11) * 2;
            case 13:
                result = body(p, 10);
                return result - asked(p, 1);
            case 14:
                return body(p, 13) + 1000;
            case 20:
                for (Integer grain : p.grains) {
                    result = Math.max(result, grain == null ? 0 : grain);
                }
                return result;
            case 21:
                return body(p, 20) + 1000;
            case 22:
                result = body(p, 21);
                return result + asked(p, 0);
            default:
                for (Integer grain : p.grains) {
                    result += grain == null ? 1 : 0;
                }
                return result;
        }
    }

    int trace(int i) {
        return i >= 0 && i < Math.min(16, trace.size()) ? trace.get(i) : Check.NONE;
    }

    int count(int what) {
        if (!in(what, 0, 7)) {
            return Check.BAD;
        }
        if (what == 0 || what == 7) {
            return what == 0 ? sheets.size() : tape.length();
        }
        int n = 0;
        if (what == 1) {
            for (int w = 0; w < 8; w++) {
                n += bright(w, Check.NONE) > 0 ? 1 : 0;
            }
        } else {
            for (Plate p : plates.values()) {
                n += isA(p, what - 2) ? 1 : 0;
            }
        }
        return n;
    }

    int status() {
        return status;
    }
}
