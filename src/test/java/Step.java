import java.lang.reflect.InvocationTargetException;
import java.lang.reflect.Method;
import java.util.ArrayList;
import java.util.Arrays;
import java.util.List;
import java.util.Map;
import java.util.Set;
import java.util.TreeMap;
import java.util.regex.Matcher;
import java.util.regex.Pattern;

/** One call of a run, and the answer that is due, if it is looked at. */
final class Step {
    private static final Map<String, Long> WORDS = Map.ofEntries(
        Map.entry("MAX", (long) Integer.MAX_VALUE), Map.entry("MIN", (long) Integer.MIN_VALUE),
        Map.entry("NONE", (long) Check.NONE), Map.entry("BAD", (long) Check.BAD), Map.entry("STATE", (long) Check.STATE),
        Map.entry("FULL", (long) Check.FULL), Map.entry("NULL", (long) Check.NULL), Map.entry("PLACE", (long) Check.PLACE),
        Map.entry("KIND", (long) Check.KIND), Map.entry("SIZE", (long) Check.SIZE), Map.entry("STORE", (long) Check.STORE));
    private static final Set<String> OF_SHEETS_OR_PLATES = Set.of("sheet", "set", "copy", "drop", "lay", "lose", "grain",
        "read", "off", "lack", "fits", "mark", "kind", "as", "ask");
    private static final Map<String, Method> FACE = new TreeMap<>();
    private static final Pattern CALL = Pattern.compile("(\\w+)\\(([^)]*)\\)(?: = (\\S+))?");
    private static final Pattern TEXT = Pattern.compile("(feed|run|fault) \"(.*)\" = (\\S+)(?: (\\S+))?");
    private static final Pattern NUMBERS = Pattern.compile("(number|even)\\((\\d+)(?:, (\\d+))?\\) = (\\S+) (\\S+)");
    private static final Pattern WAVE = Pattern.compile("wave (\\d+): (.*)");

    static {
        for (Method m : GrainWaves.class.getMethods()) {
            FACE.put(m.getName(), m);
        }
    }

    final String name;
    final long[] args;
    final Long due;

    Step(String name, Long due, long... args) {
        this.name = name;
        this.args = args;
        this.due = due;
    }

    long on(GrainWaves g) {
        Method m = FACE.get(name);
        Object[] given = new Object[args.length];
        for (int k = 0; k < args.length; k++) {
            given[k] = m.getParameterTypes()[k] == long.class ? (Object) args[k] : (Object) Math.toIntExact(args[k]);
        }
        try {
            return ((Number) m.invoke(g, given)).longValue();
        } catch (InvocationTargetException thrown) {
            System.out.println(told() + " threw " + thrown.getCause());
            return Long.MIN_VALUE;
        } catch (IllegalAccessException hidden) {
            throw new IllegalStateException(hidden);
        }
    }

    String told() {
        String list = Arrays.toString(args);
        return name + "(" + list.substring(1, list.length() - 1) + ")";
    }

    static boolean isFinding(long answer) {
        return answer <= Check.NULL && answer >= Check.STORE;
    }

    private static boolean isBad(long answer) {
        return answer == Check.BAD || answer == Check.STATE || answer == Check.FULL;
    }

    /** An ITEM may be the very number by which another call refuses. */
    private boolean isItem(long answer) {
        return name.equals("set") && answer == args[2];
    }

    boolean isRefused() {
        return due != null && (isFinding(due) || isBad(due)) && !isItem(due);
    }

    /** What status() answers behind this call: promise 29. */
    int statusAfter(int before, long answer) {
        if (!OF_SHEETS_OR_PLATES.contains(name) || isBad(answer) && !isItem(answer)) {
            return before;
        }
        return isFinding(answer) && !isItem(answer) ? (int) (-1000010 - answer) : 0;
    }

    /** The lines of a run; Runs tells their forms. */
    static List<Step> allOf(String lines) {
        List<Step> steps = new ArrayList<>();
        for (String line : lines.split("\n")) {
            if (!line.isBlank()) {
                read(line.strip(), steps);
            }
        }
        return steps;
    }

    private static void read(String line, List<Step> steps) {
        Matcher text = TEXT.matcher(line);
        Matcher numbers = NUMBERS.matcher(line);
        Matcher wave = WAVE.matcher(line);
        Matcher call = CALL.matcher(line);
        if (text.matches()) {
            readText(text, steps);
        } else if (numbers.matches()) {
            readNumbers(numbers, steps);
        } else if (wave.matches()) {
            readWave(worth(wave.group(1)), wave.group(2), steps);
        } else if (call.matches() && FACE.containsKey(call.group(1))) {
            String list = call.group(2);
            String[] args = list.isEmpty() ? new String[0] : list.split(", ");
            Long due = call.group(3) == null ? null : (Long) worth(call.group(3));
            steps.add(new Step(call.group(1), due, Arrays.stream(args).mapToLong(Step::worth).toArray()));
        } else {
            throw new IllegalArgumentException("a line of no known form: " + line);
        }
    }

    private static long worth(String word) {
        return WORDS.containsKey(word) ? WORDS.get(word) : Long.decode(word);
    }

    private static void readText(Matcher line, List<Step> steps) {
        List<Integer> bytes = bytesOf(line.group(2));
        for (int at = 0; at < bytes.size(); at += 8) {
            int end = Math.min(bytes.size(), at + 8);
            long w = 0;
            for (int k = at; k < end; k++) {
                w = w << 8 | bytes.get(k);
            }
            steps.add(new Step("feed", null, w, end - at));
        }
        long told = worth(line.group(3));
        if (line.group(1).equals("feed")) {
            Step last = steps.remove(steps.size() - 1);
            steps.add(new Step("feed", told, last.args));
        } else if (line.group(1).equals("run")) {
            steps.add(new Step("run", told));
            steps.add(new Step("count", 0L, 7));
        } else {
            steps.add(new Step("run", -1000100 - told));
            steps.add(new Step("fault", worth(line.group(4))));
            steps.add(new Step("count", 0L, 7));
        }
    }

    private static List<Integer> bytesOf(String text) {
        List<Integer> bytes = new ArrayList<>();
        Matcher m = Pattern.compile("<(\\d+)>|(.)").matcher(text);
        while (m.find()) {
            bytes.add(m.group(1) != null ? Integer.parseInt(m.group(1)) : (int) m.group(2).charAt(0));
        }
        return bytes;
    }

    private static void readNumbers(Matcher line, List<Step> steps) {
        long wave = worth(line.group(2));
        boolean one = line.group(1).equals("number");
        int first = one ? (int) worth(line.group(3)) : 0;
        for (int place = first; place <= (one ? first : 15); place++) {
            steps.add(new Step("part", worth(line.group(4)), wave, place, 0));
            steps.add(new Step("part", worth(line.group(5)), wave, place, 1));
        }
    }

    private static void readWave(long wave, String told, List<Step> steps) {
        steps.add(new Step("sheet", 32L, 7, 2, 32));
        for (String one : told.split(", ")) {
            String[] words = one.split(" ");
            boolean all = words[0].equals("all");
            int first = all ? 0 : (int) worth(words[0]);
            for (int place = first; place <= (all ? 15 : first); place++) {
                steps.add(new Step("set", null, 7, 2 * place, worth(words[1])));
                steps.add(new Step("set", null, 7, 2 * place + 1, worth(words[2])));
            }
        }
        steps.add(new Step("lay", 1L, wave, 7, 0));
        steps.add(new Step("drop", 32L, 7));
    }
}
