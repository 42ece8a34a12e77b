/** Promises 11 to 18: match, block, many, alike, begins, from, mildest, unbound. */
public final class MatchesTest {
    public static void main(String[] args) {
        oneLayer();
        eachCallLooksAnew();
        likeOnes();
        likeBlocks();
        noSecond();
        noMatch();
        missedPairs();
        mildestKind();
        withoutBounds();
        refusedNumbers();
        greatest();
        Due.end();
    }

    /** SPANS 5 6 7 8, a LAYER of 7: from 0 a BLOCK of 1 (2 off) or 3 (11 off), from 2 a BLOCK of 1 (0 off). */
    private static void oneLayer() {
        PoleRecords x = Due.with(new int[] {5, 6, 7, 8}, new int[] {7});
        int[] match = {0, 2, 0, 3};
        int[] second = {2, 0, 0, 1};
        for (int what = 0; what < 4; what++) {
            Due.is("match(0, " + what + ")", x.match(0, what), match[what]);
            Due.is("match(1, " + what + ")", x.match(1, what), second[what]);
        }
        Due.is("many", x.many(), 3);
        Due.is("alike", x.alike(), 1);
        Due.is("begins", x.begins(), 0b101);
        int[] from = {2, -1, 0, -1};
        for (int i = 0; i < 4; i++) {
            Due.is("from(" + i + ")", x.from(i), from[i]);
        }
        x.points(1);
        Due.is("SOUTH begins", x.begins(), 0b1010);
        Due.is("SOUTH many", x.many(), 3);
    }

    /** Each call is the first behind a change, so none may lean on what another found. */
    private static void eachCallLooksAnew() {
        PoleRecords x = Due.with(new int[] {5, 6, 7, 8}, new int[] {7});
        Due.is("from(0)", x.from(0), 2);
        x.sets(1, 0, 9);
        Due.is("from(0)", x.from(0), 4);
        x.sets(1, 0, 4);
        Due.is("match(0, 0)", x.match(0, 0), 1);
        x.bound(0, 5, 7);
        Due.is("many", x.many(), 1);
        x.bound(0, 0, 1);
        Due.is("alike", x.alike(), 1);
        x.points(1);
        Due.is("begins", x.begins(), 0b1010);
        x.points(0);
        Due.is("block", x.block(1, 0), 1);
        x.judge(1, 2);
        Due.is("unbound", x.unbound(), 6);
        x.judge(1, 1);
        Due.is("from(2)", x.from(2), 3);
        x.unbound();
        x.mildest(0);
        x.bound(1, 4, 7);
        Due.is("many", x.many(), 2);
    }

    /** All SPANS alike: the least first SPAN, then the next one. */
    private static void likeOnes() {
        PoleRecords x = Due.with(new int[] {4, 4, 4, 4, 4, 4}, new int[] {4, 4});
        Due.is("first SPAN", x.match(0, 1), 0);
        Due.is("SECOND's first SPAN", x.match(1, 1), 2);
        Due.is("alike", x.alike(), 3);
        Due.is("SECOND's MISFIT", x.match(1, 0), 0);
    }

    /** Four ways with a like MISFIT: from SPAN 0 BLOCKS 1, 1 and 1, 3 and 3, 1, from SPAN 2 BLOCKS 1, 1. */
    private static void likeBlocks() {
        PoleRecords x = Due.with(new int[] {3, 3, 3, 3}, new int[] {6, 6});
        Due.is("MISFIT", x.match(0, 0), 6);
        Due.is("SECOND's MISFIT", x.match(1, 0), 6);
        Due.is("many", x.many(), 4);
        Due.is("alike", x.alike(), 4);
        Due.is("MATCH BLOCK 0", x.block(0, 0), 1);
        Due.is("MATCH BLOCK 1", x.block(0, 1), 1);
        Due.is("SECOND BLOCK 0", x.block(1, 0), 1);
        Due.is("SECOND BLOCK 1", x.block(1, 1), 3);
        x.bound(0, 2, 3);
        x.bound(1, 2, 1);
        Due.is("all are ALLOWED at the edges", x.many(), 4);
        x.sets(0, 3, 4);
        x.bound(0, 0, 1);
        Due.is("5 off: 3 and 1 from SPAN 0, 1 and 1 from SPAN 2", x.alike(), 2);
        Due.is("first SPAN ahead of BLOCKS", x.match(0, 1), 0);
        Due.is("MATCH BLOCK 0", x.block(0, 0), 3);
        Due.is("MATCH BLOCK 1", x.block(0, 1), 1);
        Due.is("SECOND's first SPAN", x.match(1, 1), 2);
        Due.is("SECOND BLOCK 0", x.block(1, 0), 1);
        Due.is("SECOND BLOCK 1", x.block(1, 1), 1);
    }

    private static void noSecond() {
        PoleRecords x = Due.with(new int[] {3, 8}, new int[] {2, 9});
        Due.is("match", x.match(0, 0), 2);
        for (int what = 0; what < 4; what++) {
            Due.is("no SECOND", x.match(1, what), -3);
        }
        Due.is("no SECOND's BLOCK", x.block(1, 0), -3);
        Due.is("BLOCK", x.block(0, 1), 1);
        Due.is("told NO", x.told(1), 5);
    }

    private static void noMatch() {
        int[][] layers = {{}, {5, 5, 5}};
        for (int[] l : layers) {
            PoleRecords x = Due.with(new int[] {5, 5}, l);
            Due.is("match", x.match(0, 0), -3);
            Due.is("match", x.match(1, 3), -3);
            Due.is("many", x.many(), 0);
            Due.is("alike", x.alike(), -3);
            Due.is("begins", x.begins(), 0);
            Due.is("from(0)", x.from(0), -1);
            Due.is("from(1)", x.from(1), -1);
            Due.is("mildest(0)", x.mildest(0), -3);
            Due.is("mildest(1)", x.mildest(1), -3);
            Due.is("unbound", x.unbound(), -1);
            Due.is("block", x.block(0, 0), l.length == 0 ? -2 : -3);
            Due.is("told NO", x.told(1), l.length == 0 ? 5 : 6);
        }
    }

    /** 16 SPANS of 1 and a LAYER of 5, 3, 5: BLOCKS of 5, 3, 5 are 5 pairs MISSED. */
    private static void missedPairs() {
        int[] ones = new int[16];
        java.util.Arrays.fill(ones, 1);
        PoleRecords x = Due.with(ones, new int[] {5, 3, 5});
        Due.is("MISFIT", x.match(0, 0), 0);
        Due.is("MISSED", x.match(0, 2), 5);
        Due.is("behind the last", x.match(0, 3), 13);
        Due.is("BLOCK 0", x.block(0, 0), 5);
        Due.is("BLOCK 1", x.block(0, 1), 3);
        Due.is("BLOCK 2", x.block(0, 2), 5);
        Due.is("SECOND's first SPAN", x.match(1, 1), 2);
        Due.is("alike", x.alike(), 2);
        x.judge(0, 2);
        x.judge(2, 1);
        Due.is("STRICT, PENALTY 1", x.match(0, 0), 5);
        x.judge(2, 9);
        Due.is("STRICT, PENALTY 9", x.match(0, 0), 10);
        Due.is("MISSED", x.match(0, 2), 0);
    }

    private static void mildestKind() {
        PoleRecords x = Due.with(new int[] {9, 1, 1}, new int[] {11});
        Due.is("PLAIN by 3 SPANS is 0, SQUARE too", x.mildest(0), 0);
        Due.is("that MISFIT", x.mildest(1), 0);
        x.judge(0, 3);
        Due.is("not THE JUDGE's", x.mildest(1), 0);
        Due.is("THE JUDGE stays", x.told(7), 3);
        Due.is("THE JUDGE's", x.match(0, 0), 4);
        x.sets(1, 0, 12);
        Due.is("1 off: of like ones the least", x.mildest(0), 0);
        Due.is("1 off", x.mildest(1), 1);
        x.sets(1, 0, 13);
        Due.is("2 off", x.mildest(1), 2);
        x.bound(0, 14, 11);
        Due.is("a BLOCK of 1 alone is ALLOWED", x.mildest(1), 4);
    }

    private static void withoutBounds() {
        PoleRecords x = Due.with(new int[] {9}, new int[] {11});
        x.bound(0, 5, 1);
        Due.is("match", x.match(0, 0), -3);
        Due.is("unbound", x.unbound(), 2);
        x.bound(0, 0, 1);
        x.bound(1, 1, 1);
        Due.is("match", x.match(0, 0), -3);
        x.judge(0, 1);
        Due.is("unbound, by THE JUDGE", x.unbound(), 4);
        Due.is("the bounds stay", x.match(0, 0), -3);
        Due.is("told NO", x.told(1), 3);
        x.points(1);
        Due.is("unbound", x.unbound(), -1);
        Due.is("NONE is not refused", x.told(1), 3);
    }

    private static void refusedNumbers() {
        PoleRecords x = Due.with(new int[] {3, 8}, new int[] {2, 9});
        int[] bad = {x.match(-1, 0), x.match(2, 0), x.match(0, -1), x.match(0, 4), x.block(2, 0), x.block(-1, 0),
            x.block(0, 2), x.block(0, -1), x.from(-1), x.from(2), x.mildest(2), x.mildest(-1)};
        for (int k = 0; k < bad.length; k++) {
            Due.is("BAD " + k, bad[k], -2);
        }
        Due.is("told BAD", x.told(0), bad.length);
        PoleRecords y = new PoleRecords();
        Due.is("BAD ahead of NO", y.match(2, 0), -2);
        Due.is("BAD ahead of NO", y.mildest(3), -2);
        Due.is("told NO", y.told(1), 0);
    }

    /** Great MISFITS: LAYERS of 1 against SPANS of 99, PACE 9, SQUARE. */
    private static void greatest() {
        int[] most = new int[16];
        java.util.Arrays.fill(most, 99);
        PoleRecords x = Due.with(most, new int[] {1, 1, 1});
        x.judge(0, 1);
        x.judge(1, 9);
        x.bound(1, 1, 99);
        Due.is("MISFIT", x.match(0, 0), 3 * 890 * 890);
        x.bound(1, 1, 98);
        Due.is("1 by 99 is less than HIGH", x.block(0, 0), 1);
        x.bound(1, 0, 1);
        Due.is("none", x.match(0, 0), -3);
        x.bound(1, 99, 1);
        x.sets(1, 0, 99);
        Due.is("misfit of a BLOCK of 5", x.misfit(1, 1, 5), 4454 * 4454);
        PoleRecords y = Due.with(most, new int[] {1, 1, 1, 1, 1, 1, 1, 1});
        y.judge(0, 1);
        y.judge(1, 9);
        Due.is("8 LAYERS", y.match(0, 0), 8 * 890 * 890);
        Due.is("8 LAYERS, many", y.many(), 635);
        Due.is("8 LAYERS, alike", y.alike(), 5);
    }
}
