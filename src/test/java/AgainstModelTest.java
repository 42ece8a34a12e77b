import java.util.Random;

/** Promises 7 to 22 on many drawn states, against PlainRecords, which walks through all MATCHES. */
public final class AgainstModelTest {
    private static final int STATES = 1500;

    public static void main(String[] args) {
        Random random = new Random(20261118);
        for (int state = 0; state < STATES; state++) {
            PoleRecords x = new PoleRecords();
            PlainRecords due = new PlainRecords();
            fillBoth(random, x, due);
            judgeBoth(random, x, due);
            Due.says("state " + state);
            int spans = x.told(4);
            int layers = x.told(5);
            compareMatches(x, due, spans, layers);
            compareMisfits(x, due, spans, layers);
            compareAges(x, due, layers);
            Due.is("digest", x.digest(), due.digest());
        }
        Due.end();
    }

    private static void fillBoth(Random random, PoleRecords x, PlainRecords due) {
        int seed = random.nextInt(1000000);
        int n = 1 + random.nextInt(16);
        if (random.nextInt(3) == 0) {
            Due.is("draw", x.draw(seed, n), due.draw(seed, n));
        } else {
            int most = new int[] {2, 4, 12, 99}[random.nextInt(4)];
            int layers = random.nextInt(Math.min(n, 8) + 1);
            for (int k = 0; k < n; k++) {
                int years = 1 + random.nextInt(most);
                Due.is("span", x.span(years), due.span(years));
            }
            for (int k = 0; k < layers; k++) {
                int thickness = 1 + random.nextInt(Math.min(99, 2 * most));
                Due.is("layer", x.layer(thickness), due.layer(thickness));
            }
        }
        int south = random.nextInt(2);
        Due.is("points", x.points(south), due.points(south));
    }

    private static void judgeBoth(Random random, PoleRecords x, PlainRecords due) {
        int[] settings = {random.nextInt(4), random.nextInt(3) == 0 ? 1 + random.nextInt(9) : 1,
            random.nextInt(2) == 0 ? random.nextInt(100) : random.nextInt(4)};
        for (int what = 0; what < 3; what++) {
            Due.is("judge", x.judge(what, settings[what]), due.judge(what, settings[what]));
        }
        boundBoth(random, x, due, 0, random.nextInt(4), 1 + random.nextInt(9));
        boundBoth(random, x, due, 1, 1 + random.nextInt(9), 1 + random.nextInt(4));
    }

    private static void boundBoth(Random random, PoleRecords x, PlainRecords due, int which, int a, int b) {
        if (random.nextInt(2) == 0) {
            Due.is("bound", x.bound(which, a, b), due.bound(which, a, b));
        }
    }

    private static void compareMatches(PoleRecords x, PlainRecords due, int spans, int layers) {
        Due.is("many", x.many(), due.many());
        Due.is("alike", x.alike(), due.alike());
        Due.is("begins", x.begins(), due.begins());
        Due.is("unbound", x.unbound(), due.unbound());
        for (int which = 0; which < 2; which++) {
            for (int what = 0; what < 4; what++) {
                Due.is("match(" + which + ", " + what + ")", x.match(which, what), due.match(which, what));
            }
            for (int j = 0; j < layers; j++) {
                Due.is("block(" + which + ", " + j + ")", x.block(which, j), due.block(which, j));
            }
            Due.is("mildest(" + which + ")", x.mildest(which), due.mildest(which));
            Due.is("fastest(" + which + ")", x.fastest(which), due.fastest(which));
        }
        for (int i = 0; i < spans; i++) {
            Due.is("from(" + i + ")", x.from(i), due.from(i));
        }
    }

    private static void compareMisfits(PoleRecords x, PlainRecords due, int spans, int layers) {
        for (int j = 0; j < layers; j++) {
            for (int i = 0; i < spans; i += 3) {
                for (int block = 1; block <= 5; block += 2) {
                    Due.is("misfit(" + j + ", " + i + ", " + block + ")", x.misfit(j, i, block), due.misfit(j, i, block));
                }
            }
        }
    }

    /** Every few depths and years from the top to beyond the bottom; all calls on one object stay below 512. */
    private static void compareAges(PoleRecords x, PlainRecords due, int layers) {
        for (int d = 0; d < 800; d += 1 + d / 4) {
            Due.is("age(" + d + ")", x.age(d), due.age(d));
            compareFraction("age(" + d + ")", x, due);
        }
        for (int y = 0; y < 1600; y += 1 + y / 4) {
            Due.is("depth(" + y + ")", x.depth(y), due.depth(y));
            compareFraction("depth(" + y + ")", x, due);
        }
        for (int j = 0; j < layers; j++) {
            Due.is("rate(" + j + ")", x.rate(j), due.rate(j));
            compareFraction("rate(" + j + ")", x, due);
        }
    }

    private static void compareFraction(String call, PoleRecords x, PlainRecords due) {
        Due.is(call + ", above", x.part(0), due.part(0));
        Due.is(call + ", below", x.part(1), due.part(1));
    }
}
