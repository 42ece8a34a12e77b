/** The limits and edges that the document's 'Terms' name, a method for each sentence; THE TEXT stands in TextTest. */
public final class TermsTest {
    public static void main(String[] args) {
        spansSixteenAtMost();
        yearsOneToNinetyNine();
        spansPointByTurns();
        layersEightAtMost();
        thicknessOneToNinetyNine();
        layersPointByTurns();
        firstSpanPointsAsLayerZero();
        blocksOneThreeFive();
        blocksFollowOneAnother();
        allSpansThere();
        missedPairs();
        yearsOfWholeBlock();
        boundsLimits();
        boundsAtFirst();
        lowAtLeast();
        highAtMost();
        eachLayerIsBound();
        kindPacePenaltyLimits();
        judgeAtFirst();
        plain();
        square();
        strict();
        hard();
        misfitOfMatch();
        likeFirstSpan();
        likeBlocks();
        secondAmongOthers();
        tiesOfMatch();
        sumsOfTheGreatest();
        usedForFiveHundredAndTwelveCalls();
        Due.end();
    }

    private static void spansSixteenAtMost() {
        Due.says("SPANS 0, 1, .. (16 at most, none at first)");
        comeToTheMost(0, 16);
    }

    private static void yearsOneToNinetyNine() {
        Due.says("each with YEARS (1 .. 99)");
        sizesOneToNinetyNine(0);
    }

    private static void comeToTheMost(int what, int most) {
        PoleRecords x = new PoleRecords();
        Due.is("none at first", x.told(4 + what), 0);
        Due.is("no first", x.sets(what, 0, 1), Due.BAD);
        for (int k = 0; k < most; k++) {
            Due.is("number " + k, Due.comes(x, what, 1), k);
        }
        Due.is("one too many", Due.comes(x, what, 1), Due.FULL);
        Due.is("the most stay", x.told(4 + what), most);
        Due.is("the last", x.sets(what, most - 1, 1), 1);
        Due.is("none behind it", x.sets(what, most, 1), Due.BAD);
    }

    private static void sizesOneToNinetyNine(int what) {
        PoleRecords x = new PoleRecords();
        Due.is("0", Due.comes(x, what, 0), Due.BAD);
        Due.is("100", Due.comes(x, what, 100), Due.BAD);
        Due.is("1", Due.comes(x, what, 1), 0);
        Due.is("99", Due.comes(x, what, 99), 1);
        Due.is("sets 0", x.sets(what, 0, 0), Due.BAD);
        Due.is("sets 100", x.sets(what, 0, 100), Due.BAD);
        Due.is("sets 99", x.sets(what, 0, 99), 1);
        Due.is("sets 1", x.sets(what, 1, 1), 99);
    }

    private static void spansPointByTurns() {
        Due.says("SPAN 0 points north, 1 south, and so on by turns");
        PoleRecords x = Due.with(Due.times(16, 4), new int[] {4});
        for (int south = 0; south < 2; south++) {
            x.points(south);
            for (int i = 0; i < 16; i++) {
                Due.is("SPAN " + i + ", LAYER 0 to " + south, x.misfit(0, i, 1), i % 2 == south ? 0 : Due.NONE);
            }
        }
    }

    private static void layersEightAtMost() {
        Due.says("LAYERS 0, 1, .. (8 at most, none at first)");
        comeToTheMost(1, 8);
    }

    private static void thicknessOneToNinetyNine() {
        Due.says("each with a THICKNESS (1 .. 99)");
        sizesOneToNinetyNine(1);
    }

    private static void layersPointByTurns() {
        Due.says("LAYER 0 points NORTH (0) or SOUTH (1; as told, NORTH at first), the next ones by turns");
        PoleRecords x = Due.with(new int[] {4, 4}, Due.times(8, 4));
        Due.is("NORTH at first", x.told(6), 0);
        for (int south = 0; south < 2; south++) {
            x.points(south);
            for (int j = 0; j < 8; j++) {
                boolean isNorth = j % 2 == south;
                Due.is("LAYER " + j + " by the SPAN of north", x.misfit(j, 0, 1), isNorth ? 0 : Due.NONE);
                Due.is("LAYER " + j + " by the SPAN of south", x.misfit(j, 1, 1), isNorth ? Due.NONE : 0);
            }
        }
        Due.is("-1", x.points(-1), Due.BAD);
        Due.is("2", x.points(2), Due.BAD);
    }

    private static void firstSpanPointsAsLayerZero() {
        Due.says("a first SPAN that points as LAYER 0");
        PoleRecords x = Due.with(new int[] {9, 1}, new int[] {1});
        Due.is("SPAN 1 would fit better", x.match(0, 0), 8);
        Due.is("but points otherwise", x.match(0, 1), 0);
        x.points(1);
        Due.is("SOUTH", x.match(0, 1), 1);
        PoleRecords one = Due.with(new int[] {9}, new int[] {9});
        one.points(1);
        Due.is("no SPAN points so", one.match(0, 0), Due.NO);
    }

    private static void blocksOneThreeFive() {
        Due.says("for each LAYER a BLOCK of 1, 3 or 5 SPANS");
        PoleRecords x = Due.with(Due.times(16, 3), new int[] {3});
        int[] thickness = {3, 6, 9, 12, 15, 18, 21};
        int[] block = {1, 1, 3, 3, 5, 5, 5};
        int[] misfit = {0, 3, 0, 3, 0, 3, 6};
        for (int k = 0; k < thickness.length; k++) {
            x.sets(1, 0, thickness[k]);
            Due.is("THICKNESS " + thickness[k], x.match(0, 0), misfit[k]);
            Due.is("THICKNESS " + thickness[k], x.block(0, 0), block[k]);
        }
        for (int length = -1; length <= 8; length++) {
            boolean isBlock = length == 1 || length == 3 || length == 5;
            Due.is("a BLOCK of " + length, x.misfit(0, 0, length), isBlock ? 21 - 3 * length : Due.BAD);
        }
    }

    private static void blocksFollowOneAnother() {
        Due.says("one behind the other, beginning where the one ahead ended (at the first SPAN for LAYER 0)");
        PoleRecords x = Due.with(new int[] {9, 9, 1, 2, 3, 4, 5, 6, 7, 9}, new int[] {1, 9, 19});
        Due.is("MISFIT", x.match(0, 0), 1);
        Due.is("first SPAN", x.match(0, 1), 2);
        Due.blocks("2, then 3 to 5, then 6 to 8", x, 0, 1, 3, 3);
        Due.is("the SPAN behind", x.match(0, 3), 9);
    }

    private static void allSpansThere() {
        Due.says("all of them there");
        PoleRecords x = Due.with(new int[] {1, 1, 1}, new int[] {1, 1, 1});
        Due.is("as many SPANS as LAYERS", x.match(0, 3), 3);
        Due.is("just one MATCH", x.many(), 1);
        x.layer(1);
        Due.is("a SPAN too few", x.match(0, 0), Due.NO);
        Due.is("none", x.many(), 0);
        PoleRecords five = Due.with(Due.times(4, 1), new int[] {5});
        Due.is("a BLOCK of 5 is not there", five.match(0, 3), 3);
        five.span(1);
        Due.is("now it is", five.match(0, 3), 5);
        five.empties(0);
        Due.is("no SPANS", five.match(0, 0), Due.NO);
    }

    private static void missedPairs() {
        Due.says("MISSED: how many pairs of SPANS lie in BLOCKS beyond one SPAN each");
        PoleRecords x = Due.with(Due.times(16, 1), new int[] {1, 1});
        int[][] layers = {{1, 1}, {3, 1}, {1, 3}, {3, 3}, {5, 1}, {5, 3}, {5, 5}};
        int[] missed = {0, 1, 1, 2, 2, 3, 4};
        for (int k = 0; k < layers.length; k++) {
            x.sets(1, 0, layers[k][0]);
            x.sets(1, 1, layers[k][1]);
            Due.is("BLOCKS of " + layers[k][0] + " and " + layers[k][1], x.match(0, 2), missed[k]);
        }
    }

    private static void yearsOfWholeBlock() {
        Due.says("YEARS of a LAYER: all of its BLOCK together");
        PoleRecords x = Due.with(new int[] {1, 2, 4, 8, 16}, new int[] {99});
        Due.is("1", x.misfit(0, 0, 1), 99 - 1);
        Due.is("1 2 4", x.misfit(0, 0, 3), 99 - 7);
        Due.is("1 2 4 8 16", x.misfit(0, 0, 5), 99 - 31);
        Due.is("4 8 16", x.misfit(0, 2, 3), 99 - 28);
    }

    private static void boundsLimits() {
        Due.says("fractions a by b (a 0 .. 99, b 1 .. 99)");
        PoleRecords x = new PoleRecords();
        for (int which = 0; which < 2; which++) {
            Due.is("a -1", x.bound(which, -1, 1), Due.BAD);
            Due.is("a 0", x.bound(which, 0, 1), 1);
            Due.is("a 99", x.bound(which, 99, 1), 1);
            Due.is("a 100", x.bound(which, 100, 1), Due.BAD);
            Due.is("b 0", x.bound(which, 1, 0), Due.BAD);
            Due.is("b 1", x.bound(which, 1, 1), 1);
            Due.is("b 99", x.bound(which, 1, 99), 1);
            Due.is("b 100", x.bound(which, 1, 100), Due.BAD);
            Due.is("0 by 0", x.bound(which, 0, 0), Due.BAD);
        }
    }

    private static void boundsAtFirst() {
        Due.says("LOW 0 by 1, HIGH 99 by 1 at first");
        Due.is("as digest tells", new PoleRecords().digest(),
            Due.hash(0, 0, 0, 0, 0, 0, 0, 0, 1, 5, 0, 1, 99, 1, 0, 1, -1));
        Due.is("99 by 1 is ALLOWED", Due.with(new int[] {1}, new int[] {99}).many(), 1);
        Due.is("1 by 495 is ALLOWED", Due.with(Due.times(5, 99), new int[] {1}).misfit(0, 0, 5), 494);
    }

    private static void lowAtLeast() {
        Due.says("THICKNESS by YEARS of each LAYER is LOW at least");
        PoleRecords x = Due.with(new int[] {99}, new int[] {98});
        x.bound(0, 97, 98);
        Due.is("98 by 99 is more than 97 by 98", x.many(), 1);
        x.bound(0, 98, 99);
        Due.is("just LOW", x.many(), 1);
        x.bound(0, 99, 99);
        Due.is("less than LOW", x.many(), 0);
        x.sets(1, 0, 99);
        Due.is("1 by 1 is 99 by 99", x.many(), 1);
        x.bound(0, 0, 99);
        Due.is("LOW 0", x.many(), 1);
    }

    private static void highAtMost() {
        Due.says("THICKNESS by YEARS of each LAYER is .. HIGH at most");
        PoleRecords x = Due.with(new int[] {98}, new int[] {99});
        x.bound(1, 98, 97);
        Due.is("99 by 98 is less than 98 by 97", x.many(), 1);
        x.bound(1, 99, 98);
        Due.is("just HIGH", x.many(), 1);
        x.bound(1, 98, 98);
        Due.is("more than HIGH", x.many(), 0);
        x.bound(0, 99, 98);
        x.bound(1, 99, 98);
        Due.is("LOW and HIGH alike", x.many(), 1);
        x.bound(1, 0, 1);
        Due.is("HIGH 0, below LOW, is not refused", x.many(), 0);
        Due.counts("bounds", x, 0, 0, 0);
    }

    private static void eachLayerIsBound() {
        Due.says("a MATCH is ALLOWED, if THICKNESS by YEARS of each LAYER is");
        for (int j = 0; j < 8; j++) {
            PoleRecords x = Due.with(Due.times(8, 10), Due.times(8, 10));
            x.bound(0, 1, 1);
            x.bound(1, 1, 1);
            Due.is("all are", x.many(), 1);
            x.sets(1, j, 9);
            Due.is("LAYER " + j + " is below", x.many(), 0);
            x.sets(1, j, 11);
            Due.is("LAYER " + j + " is above", x.many(), 0);
        }
    }

    private static void kindPacePenaltyLimits() {
        Due.says("JUDGES have a KIND, 0 .. 3; the PACE g (1 .. 9); PENALTY (0 .. 99)");
        int[] least = {0, 1, 0};
        int[] most = {3, 9, 99};
        PoleRecords x = new PoleRecords();
        for (int what = 0; what < 3; what++) {
            Due.is("too small for " + what, x.judge(what, least[what] - 1), Due.BAD);
            Due.is("too large for " + what, x.judge(what, most[what] + 1), Due.BAD);
            x.judge(what, least[what]);
            Due.is("the least of " + what, x.judge(what, most[what]), least[what]);
            Due.is("the most of " + what, x.told(7 + what), most[what]);
        }
    }

    private static void judgeAtFirst() {
        Due.says("THE JUDGE's is 0 at first; PACE 1 at first; PENALTY 5 at first");
        PoleRecords x = new PoleRecords();
        Due.is("KIND", x.told(7), 0);
        Due.is("PACE", x.told(8), 1);
        Due.is("PENALTY", x.told(9), 5);
        PoleRecords y = Due.with(new int[] {3, 3, 3}, new int[] {9});
        Due.is("PLAIN at first", y.misfit(0, 0, 1), 6);
        y.judge(0, 2);
        Due.is("STRICT by PENALTY 5", y.misfit(0, 0, 3), 5);
    }

    /** A LAYER of 10 by SPANS of 10 3 7 1 2: YEARS 10, 20 or 23. */
    private static PoleRecords judged(int kind, int pace, int penalty) {
        PoleRecords x = Due.with(new int[] {10, 3, 7, 1, 2}, new int[] {10});
        x.judge(0, kind);
        x.judge(1, pace);
        x.judge(2, penalty);
        return x;
    }

    private static void misfitsAre(PoleRecords x, int one, int three, int five) {
        Due.is("BLOCK of 1", x.misfit(0, 0, 1), one);
        Due.is("BLOCK of 3", x.misfit(0, 0, 3), three);
        Due.is("BLOCK of 5", x.misfit(0, 0, 5), five);
    }

    private static void plain() {
        Due.says("0 PLAIN: by how much m and g times y are unlike");
        misfitsAre(judged(0, 1, 99), 0, 10, 13);
        misfitsAre(judged(0, 9, 99), 80, 170, 197);
        PoleRecords thick = judged(0, 1, 99);
        thick.sets(1, 0, 99);
        misfitsAre(thick, 89, 79, 76);
    }

    private static void square() {
        Due.says("1 SQUARE (a PLAIN): PLAIN's times itself");
        misfitsAre(judged(1, 1, 99), 0, 100, 169);
        misfitsAre(judged(1, 9, 99), 6400, 28900, 38809);
    }

    private static void strict() {
        Due.says("2 STRICT (a PLAIN): PLAIN's, and PENALTY for each pair");
        misfitsAre(judged(2, 1, 0), 0, 10, 13);
        misfitsAre(judged(2, 1, 7), 0, 17, 27);
        misfitsAre(judged(2, 9, 99), 80, 269, 395);
    }

    private static void hard() {
        Due.says("3 HARD (a STRICT): twice STRICT's");
        misfitsAre(judged(3, 1, 0), 0, 20, 26);
        misfitsAre(judged(3, 1, 7), 0, 34, 54);
        misfitsAre(judged(3, 9, 99), 160, 538, 790);
    }

    private static void misfitOfMatch() {
        Due.says("The MISFIT of a MATCH: those of its LAYERS together");
        PoleRecords x = Due.with(new int[] {4, 6, 8}, new int[] {5, 4, 11});
        int[] due = {1 + 2 + 3, 1 + 4 + 9, 6, 12};
        for (int kind = 0; kind < 4; kind++) {
            x.judge(0, kind);
            Due.is("by KIND " + kind, x.match(0, 0), due[kind]);
        }
    }

    private static void likeFirstSpan() {
        Due.says("of like ones that with the least first SPAN");
        PoleRecords x = Due.with(Due.times(16, 4), new int[] {4});
        Due.is("NORTH", x.match(0, 1), 0);
        Due.is("NORTH, SECOND", x.match(1, 1), 2);
        x.points(1);
        Due.is("SOUTH", x.match(0, 1), 1);
        Due.is("SOUTH, SECOND", x.match(1, 1), 3);
        PoleRecords y = Due.with(new int[] {1, 1, 1, 3}, new int[] {3});
        y.bound(1, 2, 1);
        Due.is("from 0 by 3 alone", y.match(0, 1), 0);
        y.sets(0, 2, 3);
        y.sets(1, 0, 4);
        Due.is("from 0 by 3 (1 off) ahead of 2 by 1 (1 off)", y.match(0, 1), 0);
        Due.is("the first SPAN goes ahead of BLOCKS", y.block(0, 0), 3);
        Due.is("SECOND", y.match(1, 1), 2);
    }

    /** SPANS of 1, LAYERS of 2: a BLOCK of 1 and one of 3 are both 1 off, so all MATCHES are alike. */
    private static void likeBlocks() {
        Due.says("then the least BLOCK of LAYER 0, then of LAYER 1, and so on");
        PoleRecords x = Due.with(Due.times(10, 1), Due.times(8, 2));
        Due.is("alike", x.alike(), 10);
        Due.is("many", x.many(), 10);
        Due.blocks("THE MATCH", x, 0, 1, 1, 1, 1, 1, 1, 1, 1);
        Due.blocks("THE SECOND differs in the last LAYER", x, 1, 1, 1, 1, 1, 1, 1, 1, 3);
        Due.is("THE SECOND's first SPAN", x.match(1, 1), 0);
        PoleRecords y = Due.with(Due.times(4, 3), new int[] {6, 6});
        Due.blocks("1 1 ahead of 1 3", y, 0, 1, 1);
        Due.blocks("1 3 ahead of 3 1", y, 1, 1, 3);
        PoleRecords z = Due.with(new int[] {2, 1, 1, 2}, new int[] {4, 4});
        Due.is("1 3, 3 1 are 2 off", z.match(0, 0), 2);
        Due.blocks("LAYER 0 goes ahead of LAYER 1", z, 0, 1, 3);
        Due.blocks("LAYER 0 goes ahead of LAYER 1", z, 1, 3, 1);
    }

    private static void secondAmongOthers() {
        Due.says("THE SECOND: so among all other ALLOWED ones");
        PoleRecords x = Due.with(new int[] {5, 1, 9, 1, 7}, new int[] {9});
        Due.is("THE MATCH", x.match(0, 1), 2);
        Due.is("2 off: 0 by 3 has 15, 4 by 1 has 7", x.match(1, 0), 2);
        Due.is("THE SECOND", x.match(1, 1), 4);
        x.bound(0, 9, 6);
        Due.is("5 years alone", x.many(), 1);
        Due.is("no SECOND", x.match(1, 0), Due.NO);
        Due.is("THE MATCH is there", x.match(0, 0), 4);
        PoleRecords y = Due.with(new int[] {1, 1, 1}, new int[] {3});
        Due.blocks("THE MATCH", y, 0, 3);
        Due.blocks("THE SECOND, from the same first SPAN", y, 1, 1);
        Due.is("THE SECOND's first SPAN", y.match(1, 1), 0);
        PoleRecords z = Due.with(new int[] {4, 1, 1, 9, 1, 1}, new int[] {4, 9});
        Due.blocks("THE MATCH, 0 and 2 off", z, 0, 1, 3);
        Due.blocks("THE SECOND, 2 off, then the best there", z, 1, 3, 1);
    }

    private static void tiesOfMatch() {
        Due.says("depth 0 is as old as all SPANS ahead of its first one together");
        PoleRecords x = Due.with(new int[] {30, 40, 6, 3, 5}, new int[] {4, 9, 10});
        Due.is("first SPAN", x.match(0, 1), 2);
        Due.fraction("top", x, x.age(0), 70, 1);
        Due.says("the depth at which LAYER j ends is so much older as YEARS of LAYERS to it");
        Due.fraction("LAYER 0 ends", x, x.age(4), 76, 1);
        Due.fraction("LAYER 1 ends", x, x.age(13), 79, 1);
        Due.fraction("LAYER 2 ends", x, x.age(23), 84, 1);
        Due.says("Between ties the age grows evenly");
        Due.fraction("just below the top", x, x.age(1), 143, 2);
        Due.fraction("just above a tie", x, x.age(3), 149, 2);
        Due.fraction("just below a tie", x, x.age(5), 229, 3);
        Due.fraction("just above the bottom", x, x.age(22), 167, 2);
        Due.says("depth 0 is as old as all SPANS ahead of its first one together");
        PoleRecords first = Due.with(new int[] {4}, new int[] {4});
        Due.fraction("none ahead", first, first.age(0), 0, 1);
    }

    private static void sumsOfTheGreatest() {
        Due.says("The MISFIT of a MATCH, as great as it can be");
        PoleRecords x = Due.with(Due.times(16, 99), new int[] {1, 1, 1});
        x.judge(0, 1);
        x.judge(1, 9);
        Due.is("a BLOCK of 5", x.misfit(0, 0, 5), 4454 * 4454);
        x.bound(1, 1, 99);
        Due.is("3 BLOCKS of 1", x.match(0, 0), 3 * 890 * 890);
        x.empties(1);
        for (int k : new int[] {5, 5, 3, 3}) {
            x.layer(k);
        }
        x.bound(1, 1, 99);
        Due.is("5 5 3 3 is all there is", x.many(), 1);
        Due.is("its MISFIT", x.match(0, 0), 2 * (4450 * 4450 + 2670 * 2670));
    }

    private static void usedForFiveHundredAndTwelveCalls() {
        Due.says("An object is used for at most 512 calls after it has been made");
        PoleRecords x = new PoleRecords();
        for (int k = 1; k < 512; k++) {
            Due.is("refused", x.told(-1), Due.BAD);
        }
        Due.is("the 512th call", x.told(0), 511);
    }
}
