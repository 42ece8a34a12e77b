import java.lang.reflect.Method;
import java.util.ArrayList;
import java.util.List;
import java.util.Map;
import java.util.Random;

/** Runs of 512 drawn calls on one object, most numbers at an edge, each answer against PlainRecords. */
public final class WholeRunTest {
    private static final int RUNS = 160;
    private static final int CALLS = 512;
    private static final int[] EITHER = {0, 1, 0, 1, 0, 1, 0, 1, -1, 2};
    private static final int[] SIZES = {1, 2, 3, 4, 5, 6, 8, 9, 12, 20, 1, 2, 3, 4, 99, 98, 0, 100};
    private static final int[] SPAN_NUMBERS = {0, 1, 2, 3, 4, 5, 6, 7, 8, 10, 13, 14, 15, 16, -1};
    private static final int[] LAYER_NUMBERS = {0, 1, 2, 3, 0, 1, 2, 3, 4, 6, 7, 8, -1};
    private static final int[] FOUR = {0, 1, 2, 3, 0, 1, 2, 3, -1, 4};
    private static final Map<String, int[][]> NUMBERS = Map.ofEntries(
        Map.entry("span", new int[][] {SIZES}),
        Map.entry("layer", new int[][] {SIZES}),
        Map.entry("points", new int[][] {EITHER}),
        Map.entry("sets", new int[][] {EITHER, SPAN_NUMBERS, SIZES}),
        Map.entry("empties", new int[][] {EITHER}),
        Map.entry("draw", new int[][] {{0, 1, 7, 101, 459, 31415, 271828, 999998, 999999, 1000000, -1},
            {1, 2, 3, 4, 5, 8, 9, 12, 15, 16, 16, 16, 0, 17}}),
        Map.entry("bound", new int[][] {EITHER, {0, 1, 2, 3, 50, 98, 99, 99, 0, 100, -1}, {1, 1, 2, 3, 50, 98, 99, 0, 100}}),
        Map.entry("judge", new int[][] {{0, 1, 2, 0, 1, 2, -1, 3}, {0, 1, 2, 3, 1, 2, 4, 5, 9, 10, 99, 100, -1}}),
        Map.entry("misfit", new int[][] {LAYER_NUMBERS, SPAN_NUMBERS, {1, 3, 5, 1, 3, 5, 0, 2, 4, 6}}),
        Map.entry("match", new int[][] {EITHER, FOUR}),
        Map.entry("block", new int[][] {EITHER, LAYER_NUMBERS}),
        Map.entry("from", new int[][] {SPAN_NUMBERS}),
        Map.entry("mildest", new int[][] {EITHER}),
        Map.entry("age", new int[][] {{0, 1, 2, 3, 4, 5, 7, 9, 11, 14, 20, 31, 50, 77, 99, 150, 792, 793, -1}}),
        Map.entry("depth", new int[][] {{0, 1, 2, 3, 4, 5, 7, 9, 11, 14, 20, 31, 50, 77, 99, 150, 1584, 1585, -1}}),
        Map.entry("rate", new int[][] {LAYER_NUMBERS}),
        Map.entry("fastest", new int[][] {EITHER}),
        Map.entry("part", new int[][] {EITHER}),
        Map.entry("type", new int[][] {{32, 59, 49, 57, 0, 127, -1, 128}}),
        Map.entry("told", new int[][] {{0, 1, 2, 3, 4, 5, 6, 7, 8, 9, -1, 10}}));
    /** Calls that undo much come seldom, those that build come often. */
    private static final Map<String, Integer> OFTEN = Map.of("span", 6, "layer", 3, "match", 4, "block", 3,
        "age", 3, "depth", 3, "part", 4, "digest", 3, "sets", 2);
    private static final List<String> SELDOM = List.of("empties", "draw", "clear", "bound");

    public static void main(String[] args) throws Exception {
        Random random = new Random(512);
        List<Method> calls = callsByWeight();
        for (int run = 0; run < RUNS; run++) {
            oneRun(random, calls, run);
        }
        Due.end();
    }

    private static List<Method> callsByWeight() {
        List<Method> calls = new ArrayList<>();
        List<Method> all = new ArrayList<>();
        for (Method method : PoleRecords.class.getMethods()) {
            if (method.getDeclaringClass() == PoleRecords.class) {
                all.add(method);
            }
        }
        // getMethods has no order of its own; the runs must be the same each time
        all.sort((a, b) -> a.getName().compareTo(b.getName()));
        for (Method method : all) {
            int weight = SELDOM.contains(method.getName()) ? 1 : 3 * OFTEN.getOrDefault(method.getName(), 1);
            for (int k = 0; k < weight; k++) {
                calls.add(method);
            }
        }
        return calls;
    }

    private static void oneRun(Random random, List<Method> calls, int run) throws Exception {
        PoleRecords x = new PoleRecords();
        PlainRecords due = new PlainRecords();
        int made = 0;
        while (made < CALLS) {
            if (random.nextInt(60) == 0 && made + 122 <= CALLS) {
                made += typeText(random, x, due);
            } else {
                oneCall(random, calls.get(random.nextInt(calls.size())), x, due, "run " + run + ", call " + made + ": ");
                made++;
            }
        }
    }

    private static int typeText(Random random, PoleRecords x, PlainRecords due) {
        String text = TextTest.drawnText(random);
        Due.is("clear", x.clear(), due.clear());
        for (int k = 0; k < text.length(); k++) {
            Due.is("type", x.type(text.charAt(k)), due.type(text.charAt(k)));
        }
        Due.is("reads '" + text + "'", x.reads(), due.reads());
        return text.length() + 2;
    }

    private static void oneCall(Random random, Method method, PoleRecords x, PlainRecords due, String place)
            throws Exception {
        Object[] arguments = new Object[method.getParameterCount()];
        StringBuilder call = new StringBuilder(place + method.getName());
        for (int k = 0; k < arguments.length; k++) {
            int[] pool = NUMBERS.get(method.getName())[k];
            arguments[k] = pool[random.nextInt(pool.length)];
            call.append(' ').append(arguments[k]);
        }
        Method model = PlainRecords.class.getDeclaredMethod(method.getName(), method.getParameterTypes());
        Number got = (Number) method.invoke(x, arguments);
        Number want = (Number) model.invoke(due, arguments);
        Due.is(call.toString(), got.longValue(), want.longValue());
    }
}
