/** Promises 8 to 10: bound, judge, misfit; a method for each sentence. What each KIND weighs stands in TermsTest. */
public final class JudgingTest {
    public static void main(String[] args) {
        boundBecomes();
        boundIsKeptAsTold();
        boundBad();
        judgeBecomes();
        judgeBad();
        misfitOfBlock();
        misfitByTheJudge();
        misfitPointsOtherwise();
        misfitNotAllowed();
        misfitNotSoManySpans();
        misfitBad();
        Due.end();
    }

    private static void boundBecomes() {
        Due.says("Promise 8: LOW (which 0), HIGH (1) become a by b: 1");
        PoleRecords x = Due.with(new int[] {4}, new int[] {6});
        int[][] told = {{0, 3, 2, 1}, {1, 6, 4, 1}, {1, 97, 65, 0}, {1, 99, 1, 1}, {0, 98, 65, 0}, {0, 0, 99, 1}, {1, 0, 99, 0}};
        for (int[] t : told) {
            Due.is("bound(" + t[0] + ", " + t[1] + ", " + t[2] + ")", x.bound(t[0], t[1], t[2]), 1);
            Due.is("6 by 4 behind " + t[1] + " by " + t[2], x.many(), t[3]);
        }
    }

    private static void boundIsKeptAsTold() {
        Due.says("Promise 8: LOW, HIGH become a by b");
        PoleRecords x = new PoleRecords();
        x.bound(0, 2, 6);
        x.bound(1, 4, 2);
        Due.is("digest", x.digest(), Due.hash(0, 0, 0, 0, 0, 0, 0, 0, 1, 5, 2, 6, 4, 2, 0, 1, -1));
    }

    private static void boundBad() {
        Due.says("Promise 8: BAD");
        PoleRecords x = new PoleRecords();
        int[][] bad = {{-1, 1, 1}, {2, 1, 1}, {0, -1, 1}, {0, 100, 1}, {1, -1, 1}, {1, 100, 1},
            {0, 1, 0}, {0, 1, 100}, {1, 1, 0}, {1, 1, 100}, {1, 1, -1}};
        for (int[] b : bad) {
            Due.is("bound(" + b[0] + ", " + b[1] + ", " + b[2] + ")", x.bound(b[0], b[1], b[2]), Due.BAD);
        }
        Due.is("bounds stay", x.digest(), Due.hash(bad.length, 0, 0, 0, 0, 0, 0, 0, 1, 5, 0, 1, 99, 1, 0, 1, -1));
    }

    private static void judgeBecomes() {
        Due.says("Promise 9: THE JUDGE's KIND (what 0), PACE (1), PENALTY (2) become v: what it was");
        PoleRecords x = new PoleRecords();
        Due.is("KIND", x.judge(0, 3), 0);
        Due.is("KIND", x.judge(0, 0), 3);
        Due.is("PACE", x.judge(1, 9), 1);
        Due.is("PACE", x.judge(1, 1), 9);
        Due.is("PENALTY", x.judge(2, 99), 5);
        Due.is("PENALTY", x.judge(2, 0), 99);
        Due.is("told KIND", x.told(7), 0);
        Due.is("told PACE", x.told(8), 1);
        Due.is("told PENALTY", x.told(9), 0);
    }

    private static void judgeBad() {
        Due.says("Promise 9: BAD");
        PoleRecords x = new PoleRecords();
        int[][] bad = {{-1, 1}, {3, 1}, {0, -1}, {0, 4}, {1, 0}, {1, 10}, {2, -1}, {2, 100}};
        for (int[] b : bad) {
            Due.is("judge(" + b[0] + ", " + b[1] + ")", x.judge(b[0], b[1]), Due.BAD);
        }
        Due.counts("judge", x, bad.length, 0, 0);
        Due.is("KIND stays", x.told(7), 0);
        Due.is("PACE stays", x.told(8), 1);
        Due.is("PENALTY stays", x.told(9), 5);
    }

    private static PoleRecords five() {
        return Due.with(new int[] {2, 3, 4, 5, 6}, new int[] {7, 50});
    }

    private static void misfitOfBlock() {
        Due.says("Promise 10: MISFIT of LAYER j with a BLOCK of 1, 3, 5 from SPAN i on");
        PoleRecords x = five();
        Due.is("LAYER 0, SPAN 0", x.misfit(0, 0, 1), 5);
        Due.is("LAYER 0, SPANS 0 to 2", x.misfit(0, 0, 3), 2);
        Due.is("LAYER 0, all SPANS", x.misfit(0, 0, 5), 13);
        Due.is("LAYER 0, the last SPAN", x.misfit(0, 4, 1), 1);
        Due.is("the last LAYER", x.misfit(1, 3, 1), 45);
    }

    private static void misfitByTheJudge() {
        Due.says("Promise 10: MISFIT, by THE JUDGE as he is now");
        PoleRecords x = five();
        int[][] due = {{5, 2, 13}, {25, 4, 169}, {5, 7, 23}, {10, 14, 46}};
        for (int kind = 0; kind < 4; kind++) {
            x.judge(0, kind);
            for (int k = 0; k < 3; k++) {
                Due.is("by " + kind, x.misfit(0, 0, 2 * k + 1), due[kind][k]);
            }
        }
        x.judge(1, 9);
        x.judge(2, 99);
        Due.is("HARD, PACE 9, PENALTY 99, LAYER 1", x.misfit(1, 1, 3), 2 * (9 * 12 - 50 + 99));
        x.judge(2, 0);
        Due.is("HARD, no PENALTY", x.misfit(1, 1, 3), 2 * (9 * 12 - 50));
    }

    private static void misfitPointsOtherwise() {
        Due.says("Promise 10: NONE: it points otherwise");
        PoleRecords x = five();
        Due.is("LAYER 0, SPAN 1", x.misfit(0, 1, 1), Due.NONE);
        Due.is("LAYER 1, SPAN 0", x.misfit(1, 0, 1), Due.NONE);
        x.points(1);
        Due.is("SOUTH, LAYER 1, SPAN 3", x.misfit(1, 3, 1), Due.NONE);
        Due.is("SOUTH, LAYER 0, SPAN 1", x.misfit(0, 1, 1), 4);
        Due.counts("misfit", x, 0, 0, 0);
    }

    private static void misfitNotAllowed() {
        Due.says("Promise 10: NONE: .. is not ALLOWED");
        PoleRecords x = five();
        x.bound(1, 7, 2);
        Due.is("just HIGH", x.misfit(0, 0, 1), 5);
        Due.is("above HIGH", x.misfit(1, 3, 1), Due.NONE);
        x.bound(0, 7, 9);
        Due.is("just LOW", x.misfit(0, 0, 3), 2);
        Due.is("below LOW", x.misfit(0, 0, 5), Due.NONE);
        Due.counts("misfit", x, 0, 0, 0);
    }

    private static void misfitNotSoManySpans() {
        Due.says("Promise 10: NONE: .. there are not so many SPANS");
        PoleRecords x = five();
        Due.is("just so many", x.misfit(0, 2, 3), 8);
        Due.is("two too few for 5", x.misfit(0, 2, 5), Due.NONE);
        Due.is("two too few for 3", x.misfit(0, 4, 3), Due.NONE);
        Due.is("one too few for 3", x.misfit(1, 3, 3), Due.NONE);
        Due.is("one too few for 5", x.misfit(1, 1, 5), Due.NONE);
        x.span(9);
        Due.is("now so many", x.misfit(1, 1, 5), 50 - 27);
        PoleRecords most = Due.with(Due.times(16, 1), new int[] {1});
        Due.is("SPANS 10 to 14", most.misfit(0, 10, 5), 4);
        most.points(1);
        Due.is("SPAN 15", most.misfit(0, 15, 1), 0);
        Due.is("SPANS 11 to 15", most.misfit(0, 11, 5), 4);
        Due.is("SPANS 13 to 17", most.misfit(0, 13, 5), Due.NONE);
        Due.counts("misfit", x, 0, 0, 0);
    }

    private static void misfitBad() {
        Due.says("Promise 10: BAD");
        PoleRecords x = five();
        int[][] bad = {{-1, 0, 1}, {2, 0, 1}, {0, -1, 1}, {0, 5, 1}, {0, 0, 0}, {0, 0, 2}, {0, 0, 4},
            {0, 0, 6}, {0, 0, 7}, {0, 0, -1}, {0, 0, Integer.MIN_VALUE}, {Integer.MAX_VALUE, 0, 1}, {0, Integer.MAX_VALUE, 5}};
        for (int[] b : bad) {
            Due.is("misfit(" + b[0] + ", " + b[1] + ", " + b[2] + ")", x.misfit(b[0], b[1], b[2]), Due.BAD);
        }
        Due.is("BAD ahead of NONE: it points otherwise", x.misfit(1, 0, 2), Due.BAD);
        Due.counts("misfit", x, bad.length + 1, 0, 0);
    }
}
