import java.util.ArrayList;
import java.util.Comparator;
import java.util.List;

/** CALENDAR, CORE, BOUNDS and JUDGE once more, by walking through all MATCHES: slow, plain, for comparison. */
final class PlainModel {
    /** A MATCH; its BLOCKS behind its first SPAN are what like ones are ordered by. */
    record Laid(long misfit, List<Integer> choices) {
        int first() {
            return choices.get(0);
        }

        int block(int j) {
            return choices.get(j + 1);
        }

        int behind() {
            return choices.stream().mapToInt(v -> v).sum();
        }

        int missed() {
            return choices.stream().skip(1).mapToInt(v -> v / 2).sum();
        }
    }

    final List<Integer> spans = new ArrayList<>();
    final List<Integer> layers = new ArrayList<>();
    int south = 0;
    int lowA = 0;
    int lowB = 1;
    int highA = 99;
    int highB = 1;
    int kind = 0;
    int pace = 1;
    int penalty = 5;

    int draw(int seed, int n) {
        spans.clear();
        layers.clear();
        south = 0;
        long x = seed;
        for (int k = 0; k < n; k++) {
            x = Math.floorMod(x * 1103515245L + 12345L, 1L << 31);
            spans.add((int) ((x >> 16) % 20 + 1));
        }
        int at = 0;
        while (layers.size() < 8 && at < n) {
            x = Math.floorMod(x * 1103515245L + 12345L, 1L << 31);
            int block = (x >> 16) % 4 == 0 && at + 3 <= n ? 3 : 1;
            layers.add(years(at, block) + (int) ((x >> 10) % 3));
            at += block;
        }
        return layers.size();
    }

    int years(int from, int block) {
        int sum = 0;
        for (int k = from; k < from + block; k++) {
            sum += spans.get(k);
        }
        return sum;
    }

    boolean allowed(int thickness, int years) {
        return (long) thickness * lowB >= (long) lowA * years && (long) thickness * highB <= (long) highA * years;
    }

    long misfit(int by, int thickness, int years, int pairs) {
        long plain = Math.abs(thickness - (long) pace * years);
        return by == 0 ? plain
            : by == 1 ? plain * plain
            : by == 2 ? plain + (long) penalty * pairs
            : 2 * (plain + (long) penalty * pairs);
    }

    int misfitOrNone(int j, int i, int block) {
        boolean stands = (south + j + i) % 2 == 0 && i + block <= spans.size()
            && allowed(layers.get(j), years(i, block));
        return stands ? (int) misfit(kind, layers.get(j), years(i, block), block / 2) : -1;
    }

    /** The same with LOW and HIGH as they are at first. */
    PlainModel unbound() {
        PlainModel free = new PlainModel();
        free.spans.addAll(spans);
        free.layers.addAll(layers);
        free.south = south;
        free.kind = kind;
        free.pace = pace;
        free.penalty = penalty;
        return free;
    }

    /** The top, then where each LAYER ends. */
    int[] depthsOfTies() {
        int[] depths = new int[layers.size() + 1];
        for (int j = 0; j < layers.size(); j++) {
            depths[j + 1] = depths[j] + layers.get(j);
        }
        return depths;
    }

    int[] agesOfTies(Laid laid) {
        int[] ages = new int[layers.size() + 1];
        int at = laid.first();
        ages[0] = years(0, at);
        for (int j = 0; j < layers.size(); j++) {
            ages[j + 1] = ages[j] + years(at, laid.block(j));
            at += laid.block(j);
        }
        return ages;
    }

    /** All ALLOWED MATCHES, THE MATCH first. */
    List<Laid> all(int by) {
        List<Laid> found = new ArrayList<>();
        for (int first = 0; first < spans.size() && !layers.isEmpty(); first++) {
            if (first % 2 == south) {
                lay(by, first, 0, new ArrayList<>(List.of(first)), found);
            }
        }
        found.sort(Comparator.comparingLong(Laid::misfit).thenComparing(Laid::choices, PlainModel::order));
        return found;
    }

    private void lay(int by, int at, long misfit, List<Integer> choices, List<Laid> found) {
        int j = choices.size() - 1;
        if (j == layers.size()) {
            found.add(new Laid(misfit, new ArrayList<>(choices)));
            return;
        }
        for (int block : new int[] {5, 1, 3}) {
            if (at + block <= spans.size() && allowed(layers.get(j), years(at, block))) {
                choices.add(block);
                lay(by, at + block, misfit + misfit(by, layers.get(j), years(at, block), block / 2), choices, found);
                choices.remove(choices.size() - 1);
            }
        }
    }

    private static int order(List<Integer> a, List<Integer> b) {
        for (int k = 0; k < a.size(); k++) {
            if (!a.get(k).equals(b.get(k))) {
                return Integer.compare(a.get(k), b.get(k));
            }
        }
        return 0;
    }
}
