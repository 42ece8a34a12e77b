import java.math.BigInteger;
import java.util.List;

/** The whole class once more on top of PlainModel and PlainText: slow, plain, for comparison. */
final class PlainRecords {
    private final PlainModel m = new PlainModel();
    private final int[] refusals = new int[3];
    private final StringBuilder text = new StringBuilder();
    private BigInteger above = BigInteger.ZERO;
    private BigInteger below = BigInteger.ONE;

    private static boolean among(int v, int least, int most) {
        return v >= least && v <= most;
    }

    private int refuse(int why) {
        refusals[-why - 2]++;
        return why;
    }

    private int comes(List<Integer> row, int most, int v) {
        if (!among(v, 1, 99)) {
            return refuse(Due.BAD);
        }
        if (row.size() == most) {
            return refuse(Due.FULL);
        }
        row.add(v);
        return row.size() - 1;
    }

    int span(int years) {
        return comes(m.spans, 16, years);
    }

    int layer(int thickness) {
        return comes(m.layers, 8, thickness);
    }

    int points(int south) {
        if (!among(south, 0, 1)) {
            return refuse(Due.BAD);
        }
        int was = m.south;
        m.south = south;
        return was;
    }

    int sets(int what, int k, int v) {
        List<Integer> row = what == 0 ? m.spans : m.layers;
        boolean isBad = !among(what, 0, 1) || !among(k, 0, row.size() - 1) || !among(v, 1, 99);
        return isBad ? refuse(Due.BAD) : row.set(k, v);
    }

    int empties(int what) {
        if (!among(what, 0, 1)) {
            return refuse(Due.BAD);
        }
        List<Integer> row = what == 0 ? m.spans : m.layers;
        int had = row.size();
        row.clear();
        return had;
    }

    int draw(int seed, int n) {
        return among(seed, 0, 999999) && among(n, 1, 16) ? m.draw(seed, n) : refuse(Due.BAD);
    }

    int bound(int which, int a, int b) {
        if (!among(which, 0, 1) || !among(a, 0, 99) || !among(b, 1, 99)) {
            return refuse(Due.BAD);
        }
        if (which == 0) {
            m.lowA = a;
            m.lowB = b;
        } else {
            m.highA = a;
            m.highB = b;
        }
        return 1;
    }

    int judge(int what, int v) {
        boolean stands = what == 0 && among(v, 0, 3) || what == 1 && among(v, 1, 9) || what == 2 && among(v, 0, 99);
        if (!stands) {
            return refuse(Due.BAD);
        }
        int was = toldAll()[7 + what];
        m.kind = what == 0 ? v : m.kind;
        m.pace = what == 1 ? v : m.pace;
        m.penalty = what == 2 ? v : m.penalty;
        return was;
    }

    int misfit(int j, int i, int block) {
        if (!among(j, 0, m.layers.size() - 1) || !among(i, 0, m.spans.size() - 1)
            || block != 1 && block != 3 && block != 5) {
            return refuse(Due.BAD);
        }
        return m.misfitOrNone(j, i, block);
    }

    /** THE MATCH (0), THE SECOND (1), or null. */
    private PlainModel.Laid laid(int which) {
        List<PlainModel.Laid> all = m.all(m.kind);
        return all.size() > which ? all.get(which) : null;
    }

    int match(int which, int what) {
        if (!among(which, 0, 1) || !among(what, 0, 3)) {
            return refuse(Due.BAD);
        }
        PlainModel.Laid laid = laid(which);
        if (laid == null) {
            return refuse(Due.NO);
        }
        return what == 0 ? (int) laid.misfit() : what == 1 ? laid.first() : what == 2 ? laid.missed() : laid.behind();
    }

    int block(int which, int j) {
        if (!among(which, 0, 1) || !among(j, 0, m.layers.size() - 1)) {
            return refuse(Due.BAD);
        }
        PlainModel.Laid laid = laid(which);
        return laid == null ? refuse(Due.NO) : laid.block(j);
    }

    int many() {
        return m.all(m.kind).size();
    }

    int alike() {
        PlainModel.Laid best = laid(0);
        return best == null ? refuse(Due.NO)
            : (int) m.all(m.kind).stream().filter(laid -> laid.misfit() == best.misfit()).count();
    }

    int begins() {
        return m.all(m.kind).stream().mapToInt(laid -> 1 << laid.first()).reduce(0, (a, b) -> a | b);
    }

    int from(int i) {
        if (!among(i, 0, m.spans.size() - 1)) {
            return refuse(Due.BAD);
        }
        return (int) m.all(m.kind).stream().filter(laid -> laid.first() == i)
            .mapToLong(PlainModel.Laid::misfit).min().orElse(Due.NONE);
    }

    int mildest(int what) {
        if (!among(what, 0, 1)) {
            return refuse(Due.BAD);
        }
        if (laid(0) == null) {
            return refuse(Due.NO);
        }
        int kind = 0;
        long[] least = new long[4];
        for (int by = 0; by < 4; by++) {
            least[by] = m.all(by).get(0).misfit();
            kind = least[by] < least[kind] ? by : kind;
        }
        return what == 0 ? kind : (int) least[kind];
    }

    int unbound() {
        PlainModel free = m.unbound();
        List<PlainModel.Laid> all = free.all(m.kind);
        return all.isEmpty() ? Due.NONE : (int) all.get(0).misfit();
    }

    private int becomes(long a, long b) {
        BigInteger divisor = BigInteger.valueOf(a).gcd(BigInteger.valueOf(b));
        above = BigInteger.valueOf(a).divide(divisor);
        below = BigInteger.valueOf(b).divide(divisor);
        return 1;
    }

    int age(int d) {
        if (!among(d, 0, m.layers.stream().mapToInt(v -> v).sum())) {
            return refuse(Due.BAD);
        }
        PlainModel.Laid laid = laid(0);
        if (laid == null) {
            return refuse(Due.NO);
        }
        int[] depths = m.depthsOfTies();
        int[] ages = m.agesOfTies(laid);
        return between(d, depths, ages);
    }

    int depth(int y) {
        if (!among(y, 0, 1584)) {
            return refuse(Due.BAD);
        }
        PlainModel.Laid laid = laid(0);
        if (laid == null) {
            return refuse(Due.NO);
        }
        int[] ages = m.agesOfTies(laid);
        return among(y, ages[0], ages[ages.length - 1]) ? between(y, ages, m.depthsOfTies()) : Due.NONE;
    }

    /** A straight line between the ties on both sides of v. */
    private int between(int v, int[] from, int[] to) {
        int k = 1;
        while (v > from[k]) {
            k++;
        }
        long width = from[k] - from[k - 1];
        return becomes(to[k - 1] * width + (long) (v - from[k - 1]) * (to[k] - to[k - 1]), width);
    }

    int rate(int j) {
        if (!among(j, 0, m.layers.size() - 1)) {
            return refuse(Due.BAD);
        }
        PlainModel.Laid laid = laid(0);
        if (laid == null) {
            return refuse(Due.NO);
        }
        int[] ages = m.agesOfTies(laid);
        return becomes(m.layers.get(j), ages[j + 1] - ages[j]);
    }

    int fastest(int what) {
        if (!among(what, 0, 1)) {
            return refuse(Due.BAD);
        }
        PlainModel.Laid laid = laid(0);
        if (laid == null) {
            return refuse(Due.NO);
        }
        int[] ages = m.agesOfTies(laid);
        int best = 0;
        double bestRate = 0;
        for (int j = 0; j < m.layers.size(); j++) {
            // like fractions give like doubles, and unlike ones this small give unlike doubles
            double rate = m.layers.get(j) / (double) (ages[j + 1] - ages[j]);
            if (j == 0 || (what == 0 ? rate > bestRate : rate < bestRate)) {
                best = j;
                bestRate = rate;
            }
        }
        return best;
    }

    int part(int what) {
        return what == 0 ? above.intValue() : what == 1 ? below.intValue() : refuse(Due.BAD);
    }

    int type(int c) {
        if (!among(c, 0, 127)) {
            return refuse(Due.BAD);
        }
        return text.length() == 120 ? refuse(Due.FULL) : text.append((char) c).length();
    }

    int clear() {
        int had = text.length();
        text.setLength(0);
        return had;
    }

    int reads() {
        PlainText read = new PlainText(text.toString());
        if (read.fault >= 0) {
            return -10 - read.fault;
        }
        m.spans.clear();
        m.spans.addAll(read.spans);
        m.layers.clear();
        m.layers.addAll(read.layers);
        m.south = read.south;
        return m.spans.size() + m.layers.size();
    }

    private int[] toldAll() {
        return new int[] {refusals[0], refusals[1], refusals[2], text.length(), m.spans.size(), m.layers.size(),
            m.south, m.kind, m.pace, m.penalty};
    }

    int told(int what) {
        return among(what, 0, 9) ? toldAll()[what] : refuse(Due.BAD);
    }

    long digest() {
        BigInteger h = BigInteger.valueOf(2003);
        for (int v : toldAll()) {
            h = mixed(h, v);
        }
        for (int v : m.spans) {
            h = mixed(h, v);
        }
        for (int v : m.layers) {
            h = mixed(h, v);
        }
        PlainModel.Laid laid = laid(0);
        long least = laid == null ? -1 : laid.misfit();
        for (long v : new long[] {m.lowA, m.lowB, m.highA, m.highB, above.longValue(), below.longValue(), least}) {
            h = mixed(h, v);
        }
        return h.longValue();
    }

    private static BigInteger mixed(BigInteger h, long v) {
        return h.multiply(BigInteger.valueOf(31)).add(BigInteger.valueOf(v));
    }
}
