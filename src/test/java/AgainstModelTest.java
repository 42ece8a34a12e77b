import java.util.List;
import java.util.Random;

/** Promises 7 to 22 on many drawn states, against a walk through all MATCHES. */
public final class AgainstModelTest {
    public static void main(String[] args) {
        Random random = new Random(20261118);
        for (int run = 0; run < 1500; run++) {
            PlainModel m = new PlainModel();
            PoleRecords x = new PoleRecords();
            fillBoth(random, m, x);
            judgeBoth(random, m, x);
            compare("run " + run + " ", m, x);
        }
        Due.end();
    }

    private static void fillBoth(Random random, PlainModel m, PoleRecords x) {
        int seed = random.nextInt(1000000);
        int n = 1 + random.nextInt(16);
        if (random.nextInt(3) == 0) {
            Due.is("draw", x.draw(seed, n), m.draw(seed, n));
        } else {
            int most = new int[] {2, 4, 12, 99}[random.nextInt(4)];
            int layers = random.nextInt(Math.min(n, 8) + 1);
            for (int k = 0; k < n; k++) {
                m.spans.add(1 + random.nextInt(most));
                x.span(m.spans.get(k));
            }
            for (int k = 0; k < layers; k++) {
                m.layers.add(1 + random.nextInt(Math.min(99, 2 * most)));
                x.layer(m.layers.get(k));
            }
        }
        m.south = random.nextInt(2);
        x.points(m.south);
    }

    private static void judgeBoth(Random random, PlainModel m, PoleRecords x) {
        m.kind = random.nextInt(4);
        m.pace = random.nextInt(3) == 0 ? 1 + random.nextInt(9) : 1;
        m.penalty = random.nextInt(2) == 0 ? random.nextInt(100) : random.nextInt(4);
        x.judge(0, m.kind);
        x.judge(1, m.pace);
        x.judge(2, m.penalty);
        if (random.nextInt(2) == 0) {
            m.lowA = random.nextInt(4);
            m.lowB = 1 + random.nextInt(9);
            x.bound(0, m.lowA, m.lowB);
        }
        if (random.nextInt(2) == 0) {
            m.highA = 1 + random.nextInt(9);
            m.highB = 1 + random.nextInt(4);
            x.bound(1, m.highA, m.highB);
        }
    }

    private static void compare(String run, PlainModel m, PoleRecords x) {
        List<PlainModel.Laid> all = m.all(m.kind);
        Due.is(run + "many", x.many(), all.size());
        Due.is(run + "alike", x.alike(),
            all.isEmpty() ? -3 : all.stream().filter(l -> l.misfit() == all.get(0).misfit()).count());
        compareOne(run, m, x, all, 0);
        compareOne(run, m, x, all, 1);
        compareFrom(run, m, x, all);
        compareMildest(run, m, x);
        compareMisfits(run, m, x);
        if (!all.isEmpty()) {
            compareAges(run, m, x, all.get(0));
        }
        m.lowA = 0;
        m.highA = 99;
        m.highB = 1;
        List<PlainModel.Laid> unbound = m.all(m.kind);
        Due.is(run + "unbound", x.unbound(), unbound.isEmpty() ? -1 : unbound.get(0).misfit());
    }

    private static void compareOne(String run, PlainModel m, PoleRecords x, List<PlainModel.Laid> all, int which) {
        if (all.size() <= which) {
            for (int what = 0; what < 4; what++) {
                Due.is(run + "match NO", x.match(which, what), -3);
            }
            return;
        }
        PlainModel.Laid laid = all.get(which);
        int length = 0;
        for (int j = 0; j < m.layers.size(); j++) {
            Due.is(run + "block(" + which + ", " + j + ")", x.block(which, j), laid.block(j));
            length += laid.block(j);
        }
        Due.is(run + "MISFIT", x.match(which, 0), laid.misfit());
        Due.is(run + "first", x.match(which, 1), laid.first());
        Due.is(run + "MISSED", x.match(which, 2), (length - m.layers.size()) / 2);
        Due.is(run + "behind", x.match(which, 3), laid.first() + length);
    }

    private static void compareFrom(String run, PlainModel m, PoleRecords x, List<PlainModel.Laid> all) {
        int bits = 0;
        for (int i = 0; i < m.spans.size(); i++) {
            final int first = i;
            long least = all.stream().filter(l -> l.first() == first).mapToLong(PlainModel.Laid::misfit).min().orElse(-1);
            Due.is(run + "from(" + i + ")", x.from(i), least);
            bits |= least >= 0 ? 1 << i : 0;
        }
        Due.is(run + "begins", x.begins(), bits);
    }

    private static void compareMildest(String run, PlainModel m, PoleRecords x) {
        long least = -3;
        int kind = -3;
        for (int by = 3; by >= 0; by--) {
            List<PlainModel.Laid> all = m.all(by);
            if (!all.isEmpty() && (least < 0 || all.get(0).misfit() <= least)) {
                least = all.get(0).misfit();
                kind = by;
            }
        }
        Due.is(run + "mildest(0)", x.mildest(0), kind);
        Due.is(run + "mildest(1)", x.mildest(1), least);
    }

    private static void compareMisfits(String run, PlainModel m, PoleRecords x) {
        for (int j = 0; j < m.layers.size(); j++) {
            for (int i = 0; i < m.spans.size(); i += 3) {
                for (int block = 1; block <= 5; block += 2) {
                    boolean stands = (m.south + j + i) % 2 == 0 && i + block <= m.spans.size()
                        && m.allowed(m.layers.get(j), m.years(i, block));
                    Due.is(run + "misfit", x.misfit(j, i, block),
                        stands ? m.misfit(m.kind, m.layers.get(j), m.years(i, block), block / 2) : -1);
                }
            }
        }
    }

    private static void compareAges(String run, PlainModel m, PoleRecords x, PlainModel.Laid laid) {
        int depth = 0;
        int at = laid.first();
        int age = m.years(0, at);
        int fast = 0;
        int slow = 0;
        double[] rates = new double[m.layers.size()];
        if (age > 0) {
            Due.is(run + "depth above the top", x.depth(age - 1), -1);
        }
        for (int j = 0; j < m.layers.size(); j++) {
            int thickness = m.layers.get(j);
            int years = m.years(at, laid.block(j));
            for (int into = 0; into <= thickness; into += 1 + thickness / 3) {
                isFraction(run + "age", x, x.age(depth + into), (long) age * thickness + (long) into * years, thickness);
            }
            for (int into = 0; into <= years; into += 1 + years / 3) {
                isFraction(run + "depth", x, x.depth(age + into), (long) depth * years + (long) into * thickness, years);
            }
            isFraction(run + "rate", x, x.rate(j), thickness, years);
            rates[j] = thickness / (double) years;
            fast = rates[j] > rates[fast] ? j : fast;
            slow = rates[j] < rates[slow] ? j : slow;
            depth += thickness;
            age += years;
            at += laid.block(j);
        }
        isFraction(run + "bottom's age", x, x.age(depth), age, 1);
        isFraction(run + "bottom", x, x.depth(age), depth, 1);
        Due.is(run + "below the bottom", x.age(depth + 1), -2);
        Due.is(run + "older than the bottom", x.depth(age + 1), age + 1 > 1584 ? -2 : -1);
        Due.is(run + "fastest", x.fastest(0), fast);
        Due.is(run + "slowest", x.fastest(1), slow);
    }

    private static void isFraction(String call, PoleRecords x, int got, long above, long below) {
        Due.is(call, got, 1);
        long a = x.part(0);
        long b = x.part(1);
        Due.is(call + ", the value", a * below, above * b);
        Due.is(call + ", lowest terms", b > 0 ? java.math.BigInteger.valueOf(a).gcd(java.math.BigInteger.valueOf(b)).longValue() : 0, 1);
    }
}
