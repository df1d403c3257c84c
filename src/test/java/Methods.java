import java.util.ArrayDeque;
import java.util.Deque;
import java.util.Map;
import java.util.Set;
import java.util.TreeMap;
import java.util.TreeSet;
import java.util.regex.Matcher;
import java.util.regex.Pattern;

/** The methods of a source, told apart by name alone: how long they are, and how deep their calls go. */
final class Methods {
    private static final Pattern HEAD = Pattern.compile("( {4}| {8})(?:(?:public|private|static|final) )*"
        + "(?!if|for|while|switch|else|return|do)(?:[\\w\\[\\]]+ )?(\\w+)\\([^()]*\\) \\{");
    private static final Pattern CALL = Pattern.compile("((?:\\b(?:Math|Integer|Long|Arrays|System)\\.)?\\b\\w+)\\(");

    final Map<String, Integer> lengths = new TreeMap<>();
    private final Map<String, Set<String>> calls = new TreeMap<>();

    /** The code is without comments. */
    Methods(String code) {
        String name = null;
        String end = null;
        int from = 0;
        String[] lines = code.split("\n");
        for (int k = 0; k < lines.length; k++) {
            Matcher head = HEAD.matcher(lines[k]);
            if (name == null && head.matches()) {
                name = head.group(2);
                end = head.group(1) + "}";
                from = k;
                calls.putIfAbsent(name, new TreeSet<>());
            } else if (name != null && lines[k].equals(end)) {
                lengths.merge(name, k - from + 1, Math::max);
                name = null;
            } else if (name != null) {
                addCalls(lines[k], calls.get(name));
            }
        }
    }

    private static void addCalls(String line, Set<String> called) {
        Matcher m = CALL.matcher(line);
        while (m.find()) {
            called.add(m.group(1));
        }
    }

    /** How many calls stand open at most, those of one recursion being one. */
    int deepest() {
        Map<String, Set<String>> reached = new TreeMap<>();
        for (String name : calls.keySet()) {
            reached.put(name, reachedFrom(name));
        }
        Map<String, Integer> depths = new TreeMap<>();
        int most = 0;
        for (String name : calls.keySet()) {
            most = Math.max(most, depthOf(name, reached, depths));
        }
        return most;
    }

    private boolean isCall(String name) {
        return calls.containsKey(name) || name.contains(".");
    }

    private Set<String> calledBy(String name) {
        return calls.getOrDefault(name, Set.of());
    }

    private Set<String> reachedFrom(String name) {
        Set<String> reached = new TreeSet<>();
        Deque<String> open = new ArrayDeque<>(calledBy(name));
        while (!open.isEmpty()) {
            String next = open.pop();
            if (isCall(next) && reached.add(next)) {
                open.addAll(calledBy(next));
            }
        }
        return reached;
    }

    private int depthOf(String name, Map<String, Set<String>> reached, Map<String, Integer> depths) {
        if (depths.containsKey(name)) {
            return depths.get(name);
        }
        int below = 0;
        for (String next : reached.getOrDefault(name, Set.of())) {
            boolean recursion = reached.getOrDefault(next, Set.of()).contains(name);
            if (!recursion) {
                below = Math.max(below, depthOf(next, reached, depths));
            }
        }
        depths.put(name, below + 1);
        return below + 1;
    }
}
