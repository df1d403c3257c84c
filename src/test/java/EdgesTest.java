import java.lang.reflect.InvocationTargetException;
import java.lang.reflect.Method;
import java.util.ArrayList;
import java.util.LinkedHashMap;
import java.util.List;
import java.util.Map;

/** Every call with every pair, triple .. of the edges of its numbers, its answer and status() beside those of PlainModel. */
public final class EdgesTest {
    private static final int MIN = Integer.MIN_VALUE, MAX = Integer.MAX_VALUE;
    private static final int[] SHEETS = {MIN, -1, 0, 1, 2, 3, 5, 7, 8, MAX};
    private static final int[] WAVES = {MIN, -1, 0, 1, 3, 7, 8, MAX};
    private static final int[] PLATES = {MIN, -1, 0, 1, 2, 4, 5, 6, MAX};
    private static final int[] SOME_PLATES = {-1, 0, 4, 5, 6};
    private static final int[] PLACES = {MIN, -1000001, -1000000, -999999, -2, -1, 0, 15, 16, MAX};
    private static final int[] ITEMS = {MIN, -1, 0, 1, 7, 8, 31, 32, 33, 63, 64, MAX};
    private static final int[] BITS = {MIN, -1, 0, 1, 2, MAX};
    private static final int[] QUARTERS = {MIN, -1, 0, 1, 2, 3, 4, MAX};
    /** Rows for more than three numbers are short, as their lengths multiply. */
    private static final int[] FEW_SHEETS = {-1, 0, 1, 3, 5, 8};
    private static final int[] FEW_ITEMS = {-1, 0, 1, 8, 63, 64, MAX};
    private static final int[] FEW_QUARTERS = {-1, 0, 1, 3, 4};
    private static final int AN_OBJECTS_CALLS = 400;

    private static final String SCENE = """
        wave 0: 0 1 2, 5 -3 4, 15 0 9
        wave 3: 0 1000000 0, 1 1 1
        sheet(0, 2, 64)
        set(0, 0, 16)
        set(0, 40, 1000001)
        sheet(1, 2, 8)
        set(1, 7, -3)
        sheet(2, 1, 0)
        sheet(3, 0, 33)
        set(3, 32, 200)
        take(0, 3, 0, 100000)
        take(1, 0, 0, 5)
        take(2, 0, 1, 5)
        take(3, 0, 3, 5)
        take(4, 0, 0, 5)
        lose(4, 15)
        """;

    private GrainWaves g;
    private PlainModel m;
    private int calls = AN_OBJECTS_CALLS;

    public static void main(String[] args) {
        Map<String, int[][]> edges = new LinkedHashMap<>();
        edges.put("sheet", new int[][] {SHEETS, QUARTERS, {MIN, -1, 0, 1, 63, 64, 65, MAX}});
        edges.put("set", new int[][] {SHEETS, ITEMS,
            {MIN, -32769, -32768, -129, -128, -1, 0, 127, 128, 255, 256, 32767, 32768, 65535, 65536, MAX}});
        edges.put("copy", new int[][] {FEW_SHEETS, FEW_ITEMS, FEW_SHEETS, FEW_ITEMS, FEW_ITEMS});
        edges.put("drop", new int[][] {SHEETS});
        edges.put("way", new int[][] {WAVES, BITS});
        edges.put("lay", new int[][] {WAVES, SHEETS, ITEMS});
        edges.put("part", new int[][] {WAVES, PLACES, BITS});
        edges.put("bright", new int[][] {WAVES, PLACES});
        edges.put("moved", new int[][] {WAVES, WAVES, PLACES});
        edges.put("take", new int[][] {SOME_PLATES, WAVES, WAVES, {MIN, -1, 0, 1, 99999, 100000, 100001, MAX}});
        edges.put("lose", new int[][] {PLATES, PLACES});
        edges.put("grain", new int[][] {PLATES, PLACES});
        edges.put("read", new int[][] {PLATES, WAVES, WAVES});
        edges.put("parts", new int[][] {WAVES, WAVES, QUARTERS, {-1, 0, 7, 8}});
        edges.put("off", new int[][] {{MIN, -1, 0, 1, 2, 3, 5, MAX}, WAVES});
        edges.put("lack", new int[][] {PLATES, PLATES, WAVES});
        edges.put("fits", new int[][] {{MIN, -1, 0, 1, 15, 16, MAX}, FEW_SHEETS, {MIN, -1, 0, 1, 4, 5, 60, 61, MAX},
            {MIN, -3, -2, -1, 0, 3, 4, MAX}});
        edges.put("mark", new int[][] {PLATES, {MIN, -1, 0, 1, 65535, 65536, MAX}, BITS});
        edges.put("aim", new int[][] {FEW_QUARTERS, FEW_QUARTERS, FEW_QUARTERS, FEW_QUARTERS, {-1, 2}});
        edges.put("kind", new int[][] {PLATES});
        edges.put("as", new int[][] {PLATES, {MIN, -1, 0, 1, 2, 3, 4, 5, MAX}});
        edges.put("ask", new int[][] {PLATES, BITS});
        edges.put("trace", new int[][] {{MIN, -1, 0, 1, 15, 16, MAX}});
        edges.put("count", new int[][] {{MIN, -1, 0, 1, 2, 3, 4, 5, 6, 7, 8, MAX}});
        edges.forEach((name, rows) -> new EdgesTest().tryAll(name, rows, new ArrayList<>()));
        Check.finish();
    }

    private void tryAll(String name, int[][] rows, List<Integer> chosen) {
        if (chosen.size() == rows.length) {
            beside(new Step(name, null, chosen.stream().mapToLong(Integer::longValue).toArray()));
            return;
        }
        for (int edge : rows[chosen.size()]) {
            chosen.add(edge);
            tryAll(name, rows, chosen);
            chosen.remove(chosen.size() - 1);
        }
    }

    private void beside(Step step) {
        if (calls >= AN_OBJECTS_CALLS) {
            g = new GrainWaves();
            m = new PlainModel();
            calls = 0;
            Step.allOf(SCENE).forEach(this::beside);
        }
        calls += 2;
        Check.due(step.told(), step.on(g), ofModel(step));
        Check.status(g, step.told(), m.status());
    }

    private long ofModel(Step step) {
        for (Method method : PlainModel.class.getDeclaredMethods()) {
            if (method.getName().equals(step.name)) {
                Object[] given = new Object[step.args.length];
                for (int k = 0; k < given.length; k++) {
                    given[k] = method.getParameterTypes()[k] == long.class ? (Object) step.args[k] : (Object) (int) step.args[k];
                }
                try {
                    return ((Number) method.invoke(m, given)).longValue();
                } catch (IllegalAccessException | InvocationTargetException failed) {
                    throw new IllegalStateException(step.told(), failed);
                }
            }
        }
        throw new IllegalStateException("the model has no " + step.name);
    }
}
