/** Promises 8 to 10: bound, judge, misfit. */
public final class JudgingTest {
    public static void main(String[] args) {
        bounding();
        boundingRefused();
        judging();
        misfitByKind();
        misfitNone();
        misfitRefused();
        Due.end();
    }

    private static void bounding() {
        PoleRecords x = Due.with(new int[] {4}, new int[] {6});
        Due.is("LOW 3 by 2, just as it is", x.bound(0, 3, 2), 1);
        Due.is("many", x.many(), 1);
        Due.is("HIGH 3 by 2, just as it is", x.bound(1, 6, 4), 1);
        Due.is("many", x.many(), 1);
        Due.is("HIGH a bit less", x.bound(1, 97, 65), 1);
        Due.is("many", x.many(), 0);
        Due.is("HIGH", x.bound(1, 99, 1), 1);
        Due.is("LOW a bit more", x.bound(0, 98, 65), 1);
        Due.is("many", x.many(), 0);
        Due.is("LOW 0", x.bound(0, 0, 99), 1);
        Due.is("HIGH 0", x.bound(1, 0, 99), 1);
        Due.is("many", x.many(), 0);
    }

    private static void boundingRefused() {
        PoleRecords x = new PoleRecords();
        int[][] bad = {{-1, 1, 1}, {2, 1, 1}, {0, -1, 1}, {0, 100, 1}, {1, 1, 0}, {1, 1, 100}, {1, 1, -1}};
        long before = x.digest();
        for (int[] b : bad) {
            Due.is("bound BAD", x.bound(b[0], b[1], b[2]), -2);
        }
        Due.is("told BAD", x.told(0), bad.length);
        PoleRecords y = new PoleRecords();
        for (int k = 0; k < bad.length; k++) {
            y.told(-1);
        }
        Due.is("bounds stayed", x.digest(), y.digest());
        Due.is("digest knows refusals", x.digest() == before ? 1 : 0, 0);
    }

    private static void judging() {
        PoleRecords x = new PoleRecords();
        Due.is("KIND", x.judge(0, 3), 0);
        Due.is("KIND", x.judge(0, 0), 3);
        Due.is("PACE", x.judge(1, 9), 1);
        Due.is("PACE", x.judge(1, 1), 9);
        Due.is("PENALTY", x.judge(2, 99), 5);
        Due.is("PENALTY", x.judge(2, 0), 99);
        int[][] bad = {{-1, 1}, {3, 1}, {0, -1}, {0, 4}, {1, 0}, {1, 10}, {2, -1}, {2, 100}};
        for (int[] b : bad) {
            Due.is("judge BAD", x.judge(b[0], b[1]), -2);
        }
        Due.is("told BAD", x.told(0), bad.length);
        Due.is("told KIND", x.told(7), 0);
        Due.is("told PACE", x.told(8), 1);
        Due.is("told PENALTY", x.told(9), 0);
    }

    private static void misfitByKind() {
        PoleRecords x = Due.with(new int[] {2, 3, 4, 5, 6}, new int[] {7, 50});
        int[][] due = {{5, 2, 13}, {25, 4, 169}, {5, 7, 23}, {10, 14, 46}};
        for (int kind = 0; kind < 4; kind++) {
            x.judge(0, kind);
            Due.is("BLOCK of 1 by " + kind, x.misfit(0, 0, 1), due[kind][0]);
            Due.is("BLOCK of 3 by " + kind, x.misfit(0, 0, 3), due[kind][1]);
            Due.is("BLOCK of 5 by " + kind, x.misfit(0, 0, 5), due[kind][2]);
        }
        x.judge(1, 9);
        x.judge(2, 99);
        Due.is("HARD, PACE 9, PENALTY 99, LAYER 1", x.misfit(1, 1, 3), 2 * (9 * 12 - 50 + 99));
        x.judge(2, 0);
        Due.is("HARD, no PENALTY", x.misfit(1, 1, 3), 2 * (9 * 12 - 50));
    }

    private static void misfitNone() {
        PoleRecords x = Due.with(new int[] {2, 3, 4, 5, 6}, new int[] {7, 50});
        Due.is("points otherwise", x.misfit(0, 1, 1), -1);
        Due.is("points otherwise", x.misfit(1, 0, 1), -1);
        Due.is("points so", x.misfit(1, 3, 1), 45);
        x.points(1);
        Due.is("points otherwise now", x.misfit(1, 3, 1), -1);
        Due.is("points so now", x.misfit(0, 1, 1), 4);
        x.points(0);
        Due.is("just so many SPANS", x.misfit(0, 2, 3), 8);
        Due.is("not so many SPANS", x.misfit(0, 2, 5), -1);
        Due.is("not so many SPANS", x.misfit(0, 4, 3), -1);
        x.bound(1, 7, 2);
        Due.is("ALLOWED at the edge", x.misfit(0, 0, 1), 5);
        Due.is("not ALLOWED", x.misfit(1, 3, 1), -1);
        x.bound(0, 7, 9);
        Due.is("ALLOWED at the edge", x.misfit(0, 0, 3), 2);
        Due.is("not ALLOWED", x.misfit(0, 0, 5), -1);
        Due.is("nothing was refused", x.told(0) + x.told(1) + x.told(2), 0);
    }

    private static void misfitRefused() {
        PoleRecords x = Due.with(new int[] {2, 3, 4, 5, 6}, new int[] {7, 50});
        int[][] bad = {{-1, 0, 1}, {2, 0, 1}, {0, -1, 1}, {0, 5, 1}, {0, 0, 0}, {0, 0, 2}, {0, 0, 4},
            {0, 0, 6}, {0, 0, 7}, {0, 0, -1}, {0, 0, Integer.MIN_VALUE}, {Integer.MAX_VALUE, 0, 1}};
        for (int[] b : bad) {
            Due.is("misfit BAD", x.misfit(b[0], b[1], b[2]), -2);
        }
        Due.is("told BAD", x.told(0), bad.length);
    }
}
