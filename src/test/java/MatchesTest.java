/** Promises 11 to 18: match, block, many, alike, begins, from, mildest, unbound; a method for each sentence. */
public final class MatchesTest {
    public static void main(String[] args) {
        matchTells();
        matchOfAllSpans();
        matchBad();
        matchNo();
        blockTells();
        blockBad();
        blockNo();
        manyAllowed();
        manyAtMost();
        alikeAllowed();
        alikeNo();
        beginsAsBits();
        fromFirstSpan();
        fromNone();
        fromBad();
        mildestKind();
        mildestByEachKind();
        mildestBadAndNo();
        unboundMisfit();
        unboundNone();
        eachCallLooksAnew();
        Due.end();
    }

    /** SPANS 5 6 7 8, a LAYER of 7: from 0 a BLOCK of 1 (2 off) or 3 (11 off), from 2 a BLOCK of 1 (0 off). */
    private static PoleRecords four() {
        return Due.with(new int[] {5, 6, 7, 8}, new int[] {7});
    }

    private static PoleRecords justOne() {
        return Due.with(new int[] {3, 8}, new int[] {2, 9});
    }

    private static void matchTells() {
        Due.says("Promise 11: MISFIT (what 0), first SPAN (1), pairs MISSED (2), the SPAN behind the last one (3)");
        PoleRecords x = four();
        int[] match = {0, 2, 0, 3};
        int[] second = {2, 0, 0, 1};
        for (int what = 0; what < 4; what++) {
            Due.is("match(0, " + what + ")", x.match(0, what), match[what]);
            Due.is("match(1, " + what + ")", x.match(1, what), second[what]);
        }
        PoleRecords y = Due.with(Due.times(16, 1), new int[] {5, 3, 5});
        int[] missing = {0, 0, 5, 13};
        int[] next = {0, 2, 5, 15};
        for (int what = 0; what < 4; what++) {
            Due.is("5 3 5, match(0, " + what + ")", y.match(0, what), missing[what]);
            Due.is("5 3 5, match(1, " + what + ")", y.match(1, what), next[what]);
        }
        y.judge(0, 2);
        y.judge(2, 1);
        Due.is("STRICT, PENALTY 1", y.match(0, 0), 5);
        y.judge(2, 9);
        Due.is("STRICT, PENALTY 9", y.match(0, 0), 10);
        Due.is("no pair is worth 9", y.match(0, 2), 0);
    }

    private static void matchOfAllSpans() {
        Due.says("Promise 11: .. pairs MISSED (2), the SPAN behind the last one (3), as great as they can be");
        PoleRecords x = Due.with(Due.times(16, 1), new int[] {5, 5, 5, 1});
        Due.is("behind SPAN 15", x.match(0, 3), 16);
        Due.is("6 pairs", x.match(0, 2), 6);
        PoleRecords last = Due.with(Due.times(16, 9), new int[] {1});
        last.points(1);
        last.sets(0, 15, 1);
        Due.is("the last SPAN alone", last.match(0, 1), 15);
        Due.is("behind it", last.match(0, 3), 16);
    }

    private static void matchBad() {
        Due.says("Promise 11: BAD");
        PoleRecords x = four();
        int[] bad = {x.match(-1, 0), x.match(2, 0), x.match(0, -1), x.match(0, 4), x.match(1, -1), x.match(1, 4)};
        for (int k = 0; k < bad.length; k++) {
            Due.is("match, " + k, bad[k], Due.BAD);
        }
        Due.counts("match", x, bad.length, 0, 0);
    }

    private static void matchNo() {
        Due.says("Promise 11: NO");
        PoleRecords x = justOne();
        for (int what = 0; what < 4; what++) {
            Due.isTrue("THE MATCH", x.match(0, what) >= 0);
            Due.is("no SECOND", x.match(1, what), Due.NO);
        }
        Due.counts("no SECOND", x, 0, 4, 0);
        x.layer(1);
        for (int what = 0; what < 4; what++) {
            Due.is("no MATCH", x.match(0, what), Due.NO);
            Due.is("no MATCH, no SECOND", x.match(1, what), Due.NO);
        }
        Due.counts("no MATCH", x, 0, 12, 0);
    }

    private static void blockTells() {
        Due.says("Promise 12: BLOCK of LAYER j in THE MATCH (0), THE SECOND (1)");
        PoleRecords x = Due.with(new int[] {3, 3, 3, 4}, new int[] {6, 6});
        Due.is("5 off: 3 and 1 from SPAN 0, 1 and 1 from SPAN 2", x.alike(), 2);
        Due.blocks("THE MATCH", x, 0, 3, 1);
        Due.blocks("THE SECOND", x, 1, 1, 1);
        PoleRecords y = Due.with(Due.times(16, 1), new int[] {5, 3, 5});
        Due.blocks("5 3 5", y, 0, 5, 3, 5);
        PoleRecords z = Due.with(Due.times(16, 2), Due.times(8, 2));
        Due.blocks("8 LAYERS", z, 0, 1, 1, 1, 1, 1, 1, 1, 1);
    }

    private static void blockBad() {
        Due.says("Promise 12: BAD");
        PoleRecords x = justOne();
        int[] bad = {x.block(2, 0), x.block(-1, 0), x.block(0, 2), x.block(0, -1), x.block(1, 2), x.block(1, -1)};
        for (int k = 0; k < bad.length; k++) {
            Due.is("block, " + k, bad[k], Due.BAD);
        }
        Due.is("no LAYERS", new PoleRecords().block(0, 0), Due.BAD);
        Due.counts("block", x, bad.length, 0, 0);
    }

    private static void blockNo() {
        Due.says("Promise 12: NO");
        PoleRecords x = justOne();
        Due.blocks("THE MATCH", x, 0, 1, 1);
        Due.blocks("no SECOND", x, 1, Due.NO, Due.NO);
        x.bound(1, 0, 1);
        Due.blocks("no MATCH", x, 0, Due.NO, Due.NO);
        Due.counts("block", x, 0, 4, 0);
    }

    private static void manyAllowed() {
        Due.says("Promise 13: How many MATCHES are ALLOWED");
        PoleRecords x = four();
        Due.is("NORTH", x.many(), 3);
        x.points(1);
        Due.is("SOUTH", x.many(), 3);
        x.bound(0, 7, 8);
        Due.is("bound", x.many(), 2);
        x.bound(0, 99, 1);
        Due.is("none", x.many(), 0);
        x.empties(1);
        Due.is("no LAYERS", x.many(), 0);
        x.layer(5);
        x.empties(0);
        Due.is("no SPANS", x.many(), 0);
        Due.counts("many", x, 0, 0, 0);
    }

    /** The bound of 1000000000 is far above what 16 SPANS and 8 LAYERS can give: these are the most. */
    private static void manyAtMost() {
        Due.says("Promise 13: (1000000000 at most); Promise 14: (the same bound)");
        int[] most = {21, 54, 108, 244, 322, 576, 432, 635};
        for (int count = 1; count <= 8; count++) {
            PoleRecords x = Due.with(Due.times(16, 1), Due.times(count, 99));
            Due.is("many by " + count, x.many(), most[count - 1]);
        }
        PoleRecords y = Due.with(Due.times(16, 1), Due.times(8, 2));
        y.bound(0, 2, 3);
        Due.is("BLOCKS of 1 and 3 alone, all 1 off each", y.alike(), y.many());
    }

    private static void alikeAllowed() {
        Due.says("Promise 14: How many ALLOWED ones have as little MISFIT as THE MATCH");
        Due.is("one", four().alike(), 1);
        PoleRecords x = Due.with(Due.times(6, 4), new int[] {4, 4});
        Due.is("from 0, 2, 4", x.alike(), 3);
        x.sets(0, 5, 5);
        Due.is("from 0, 2", x.alike(), 2);
        PoleRecords y = Due.with(Due.times(4, 3), new int[] {6, 6});
        Due.is("all of them", y.alike(), 4);
        y.bound(0, 1, 1);
        Due.is("BLOCKS of 3 are not ALLOWED", y.alike(), 2);
        PoleRecords z = Due.with(Due.times(16, 99), Due.times(8, 1));
        z.judge(0, 1);
        z.judge(1, 9);
        Due.is("8 LAYERS", z.alike(), 5);
    }

    private static void alikeNo() {
        Due.says("Promise 14: NO");
        PoleRecords x = four();
        x.bound(1, 0, 1);
        Due.is("not ALLOWED", x.alike(), Due.NO);
        x.empties(1);
        Due.is("no LAYERS", x.alike(), Due.NO);
        Due.counts("alike", x, 0, 2, 0);
    }

    private static void beginsAsBits() {
        Due.says("Promise 15: The first SPANS from which an ALLOWED MATCH can begin, as bits");
        PoleRecords x = four();
        Due.is("NORTH", x.begins(), 0b101);
        x.points(1);
        Due.is("SOUTH", x.begins(), 0b1010);
        x.bound(1, 7, 8);
        Due.is("6 years are too few, 6 7 8 not", x.begins(), 0b1010);
        x.bound(0, 7, 8);
        Due.is("8 years alone", x.begins(), 0b1000);
        x.bound(0, 99, 1);
        Due.is("none", x.begins(), 0);
        PoleRecords y = Due.with(Due.times(16, 1), new int[] {1});
        Due.is("SPANS 0 to 14", y.begins(), 0x5555);
        y.points(1);
        Due.is("SPANS 1 to 15", y.begins(), 0xAAAA);
        PoleRecords z = Due.with(Due.times(16, 1), Due.times(8, 1));
        Due.is("8 LAYERS", z.begins(), 0b101010101);
    }

    private static void fromFirstSpan() {
        Due.says("Promise 16: MISFIT of THE MATCH, were the first SPAN i");
        PoleRecords x = four();
        Due.is("SPAN 0", x.from(0), 2);
        Due.is("SPAN 2", x.from(2), 0);
        x.points(1);
        Due.is("SPAN 1", x.from(1), 1);
        Due.is("the last SPAN", x.from(3), 1);
        PoleRecords y = Due.with(Due.times(16, 3), new int[] {4});
        y.points(1);
        Due.is("SPAN 15", y.from(15), 1);
    }

    private static void fromNone() {
        Due.says("Promise 16: NONE: none is ALLOWED");
        PoleRecords x = four();
        Due.is("points otherwise", x.from(1), Due.NONE);
        Due.is("points otherwise", x.from(3), Due.NONE);
        x.bound(0, 7, 6);
        Due.is("not ALLOWED there", x.from(2), Due.NONE);
        Due.is("ALLOWED here", x.from(0), 2);
        x.bound(0, 0, 1);
        x.layer(1);
        x.layer(1);
        Due.is("too few SPANS behind", x.from(2), Due.NONE);
        x.empties(1);
        Due.is("no LAYERS", x.from(0), Due.NONE);
        Due.counts("from", x, 0, 0, 0);
    }

    private static void fromBad() {
        Due.says("Promise 16: BAD: there is no SPAN i");
        PoleRecords x = four();
        int[] bad = {x.from(-1), x.from(4), x.from(16), x.from(Integer.MIN_VALUE), x.from(Integer.MAX_VALUE)};
        for (int answer : bad) {
            Due.is("from", answer, Due.BAD);
        }
        Due.counts("from", x, bad.length, 0, 0);
        x.empties(0);
        Due.is("no SPANS", x.from(0), Due.BAD);
    }

    private static void mildestKind() {
        Due.says("Promise 17: the KIND of the least (what 0; of like ones the least), that MISFIT (1)");
        PoleRecords x = Due.with(new int[] {9, 1, 1}, new int[] {11});
        Due.is("0 off: PLAIN and SQUARE are alike", x.mildest(0), 0);
        Due.is("0 off", x.mildest(1), 0);
        x.sets(1, 0, 12);
        Due.is("1 off: PLAIN and SQUARE are alike", x.mildest(0), 0);
        Due.is("1 off", x.mildest(1), 1);
        x.sets(1, 0, 13);
        Due.is("2 off", x.mildest(0), 0);
        Due.is("2 off", x.mildest(1), 2);
        x.bound(0, 14, 11);
        Due.is("a BLOCK of 1 alone is ALLOWED", x.mildest(1), 4);
    }

    private static void mildestByEachKind() {
        Due.says("Promise 17: MISFIT of THE MATCH by each KIND of JUDGES");
        PoleRecords x = Due.with(new int[] {9, 1, 1}, new int[] {11});
        for (int kind = 0; kind < 4; kind++) {
            x.judge(0, kind);
            Due.is("whichever THE JUDGE's is", x.mildest(1), 0);
            Due.is("whichever THE JUDGE's is", x.mildest(0), 0);
            Due.is("THE JUDGE's stays", x.told(7), kind);
        }
        Due.is("THE JUDGE's own", x.match(0, 0), 4);
        x.judge(1, 3);
        Due.is("by his PACE: SPAN 2 is nearest", x.mildest(1), 11 - 3);
    }

    private static void mildestBadAndNo() {
        Due.says("Promise 17: BAD; NO");
        PoleRecords x = four();
        Due.is("mildest(2)", x.mildest(2), Due.BAD);
        Due.is("mildest(-1)", x.mildest(-1), Due.BAD);
        x.bound(0, 99, 1);
        Due.is("none ALLOWED", x.mildest(0), Due.NO);
        Due.is("none ALLOWED", x.mildest(1), Due.NO);
        Due.is("BAD ahead of NO", x.mildest(3), Due.BAD);
        Due.counts("mildest", x, 3, 2, 0);
    }

    private static void unboundMisfit() {
        Due.says("Promise 18: MISFIT of THE MATCH, were LOW 0 by 1 and HIGH 99 by 1");
        PoleRecords x = Due.with(new int[] {9}, new int[] {11});
        x.bound(0, 5, 1);
        Due.is("LOW is too much", x.match(0, 0), Due.NO);
        Due.is("without it", x.unbound(), 2);
        x.bound(0, 0, 1);
        x.bound(1, 1, 1);
        Due.is("HIGH is too little", x.match(0, 0), Due.NO);
        x.judge(0, 1);
        Due.is("without it, by THE JUDGE", x.unbound(), 4);
        Due.is("the bounds stay", x.match(0, 0), Due.NO);
        PoleRecords most = Due.with(new int[] {1}, new int[] {99});
        most.bound(1, 98, 1);
        Due.is("99 by 1 is ALLOWED without bounds", most.unbound(), 98);
        PoleRecords y = four();
        y.bound(0, 7, 5);
        Due.is("the bound MATCH", y.match(0, 0), 2);
        Due.is("the free one", y.unbound(), 0);
    }

    private static void unboundNone() {
        Due.says("Promise 18: NONE: there is none even so");
        PoleRecords x = Due.with(new int[] {9}, new int[] {11});
        x.points(1);
        Due.is("points otherwise", x.unbound(), Due.NONE);
        x.points(0);
        x.layer(3);
        Due.is("too few SPANS", x.unbound(), Due.NONE);
        x.empties(1);
        Due.is("no LAYERS", x.unbound(), Due.NONE);
        x.layer(3);
        x.empties(0);
        Due.is("no SPANS", x.unbound(), Due.NONE);
        Due.counts("unbound", x, 0, 0, 0);
    }

    /** Each call is the first behind a change, so none may lean on what another found. */
    private static void eachCallLooksAnew() {
        Due.says("Promises 11 to 18, each behind a change");
        PoleRecords x = four();
        Due.is("from(0)", x.from(0), 2);
        x.sets(1, 0, 9);
        Due.is("from(0)", x.from(0), 4);
        x.sets(1, 0, 4);
        Due.is("match(0, 0)", x.match(0, 0), 1);
        x.bound(0, 5, 7);
        Due.is("many", x.many(), 1);
        x.bound(0, 0, 1);
        Due.is("alike", x.alike(), 1);
        x.points(1);
        Due.is("begins", x.begins(), 0b1010);
        x.points(0);
        Due.is("block", x.block(1, 0), 1);
        x.judge(1, 2);
        Due.is("unbound", x.unbound(), 6);
        x.judge(1, 1);
        Due.is("from(2)", x.from(2), 3);
        x.unbound();
        x.mildest(0);
        x.bound(1, 4, 7);
        Due.is("many", x.many(), 2);
    }
}
