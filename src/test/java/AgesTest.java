/** Promises 19 to 23: age, depth, rate, fastest, part; a method for each sentence. */
public final class AgesTest {
    public static void main(String[] args) {
        ageAtDepth();
        ageToTheBottom();
        ageOfTheDeepest();
        ageBadAndNo();
        depthOfAge();
        depthYoungerOlder();
        depthOfTheOldest();
        depthBadAndNo();
        rateOfLayer();
        rateBadAndNo();
        fastestAndSlowest();
        fastestOfLikeOnes();
        fastestBadAndNo();
        partAtFirst();
        partInLowestTerms();
        partStays();
        partBad();
        Due.end();
    }

    /** LAYERS of 6 and 4 against SPANS 1 and 2 (9 and 5 years) behind 3 years: first SPAN 1, SOUTH. */
    private static PoleRecords sample() {
        PoleRecords x = Due.with(new int[] {3, 9, 5}, new int[] {6, 4});
        x.points(1);
        return x;
    }

    private static PoleRecords withoutMatch() {
        PoleRecords x = sample();
        x.bound(0, 99, 1);
        return x;
    }

    private static void ageAtDepth() {
        Due.says("Promise 19: By THE MATCH: the age at depth d: THE FRACTION is that: 1");
        PoleRecords x = sample();
        Due.fraction("the top", x, x.age(0), 3, 1);
        Due.fraction("age(1)", x, x.age(1), 9, 2);
        Due.fraction("age(2)", x, x.age(2), 6, 1);
        Due.fraction("above a tie", x, x.age(5), 21, 2);
        Due.fraction("a tie", x, x.age(6), 12, 1);
        Due.fraction("below a tie", x, x.age(7), 53, 4);
        x.points(0);
        Due.fraction("by another MATCH", x, x.age(0), 0, 1);
    }

    private static void ageToTheBottom() {
        Due.says("Promise 19: to the bottom of the CORE, else BAD");
        PoleRecords x = sample();
        Due.fraction("the bottom", x, x.age(10), 17, 1);
        Due.is("below the bottom", x.age(11), Due.BAD);
        x.layer(1);
        Due.is("the CORE is 11 now, but has no MATCH", x.age(11), Due.NO);
        Due.is("below the bottom", x.age(12), Due.BAD);
        Due.counts("age", x, 2, 1, 0);
    }

    private static void ageOfTheDeepest() {
        Due.says("Promise 19: d (0 .. 792)");
        PoleRecords x = Due.with(Due.times(16, 99), Due.times(8, 99));
        Due.fraction("792", x, x.age(792), 792, 1);
        Due.is("793", x.age(793), Due.BAD);
        Due.is("-1", x.age(-1), Due.BAD);
        x.sets(1, 7, 98);
        Due.is("792 is below the bottom", x.age(792), Due.BAD);
        Due.fraction("791", x, x.age(791), 792, 1);
    }

    private static void ageBadAndNo() {
        Due.says("Promise 19: BAD; NO");
        PoleRecords x = new PoleRecords();
        Due.is("no LAYERS, the bottom is 0", x.age(0), Due.NO);
        Due.is("no LAYERS", x.age(1), Due.BAD);
        x.layer(5);
        Due.is("no SPANS", x.age(5), Due.NO);
        Due.is("no SPANS", x.age(6), Due.BAD);
        Due.counts("age", x, 2, 2, 0);
        Due.is("none ALLOWED", withoutMatch().age(0), Due.NO);
    }

    private static void depthOfAge() {
        Due.says("Promise 20: By THE MATCH: the depth at which it is y years old (THE FRACTION: 1)");
        PoleRecords x = sample();
        Due.fraction("depth(4)", x, x.depth(4), 2, 3);
        Due.fraction("above a tie", x, x.depth(11), 16, 3);
        Due.fraction("a tie", x, x.depth(12), 6, 1);
        Due.fraction("below a tie", x, x.depth(13), 34, 5);
    }

    private static void depthYoungerOlder() {
        Due.says("Promise 20: NONE: younger than the top, older than the bottom");
        PoleRecords x = sample();
        Due.is("younger than the top", x.depth(2), Due.NONE);
        Due.is("0", x.depth(0), Due.NONE);
        Due.fraction("the top", x, x.depth(3), 0, 1);
        Due.fraction("the bottom", x, x.depth(17), 10, 1);
        Due.is("older than the bottom", x.depth(18), Due.NONE);
        Due.is("1584", x.depth(1584), Due.NONE);
        Due.counts("depth", x, 0, 0, 0);
        PoleRecords y = Due.with(new int[] {4}, new int[] {8});
        Due.fraction("a top of today", y, y.depth(0), 0, 1);
    }

    /** HIGH 1 by 5: a LAYER of 99 needs 495 years, one of 59 needs 295: BLOCKS of 5 5 3 3, all SPANS. */
    private static void depthOfTheOldest() {
        Due.says("Promise 20: BAD: y below 0, above 1584");
        PoleRecords x = Due.with(Due.times(16, 99), new int[] {99, 99, 59, 59});
        x.bound(1, 1, 5);
        Due.is("all SPANS", x.match(0, 3), 16);
        Due.fraction("1584", x, x.depth(1584), 316, 1);
        Due.fraction("1583", x, x.depth(1583), 93793, 297);
        Due.is("1585", x.depth(1585), Due.BAD);
        Due.is("-1", x.depth(-1), Due.BAD);
        Due.fraction("the bottom", x, x.age(316), 1584, 1);
        Due.counts("depth", x, 2, 0, 0);
    }

    private static void depthBadAndNo() {
        Due.says("Promise 20: BAD; NO");
        PoleRecords x = withoutMatch();
        Due.is("none ALLOWED", x.depth(0), Due.NO);
        Due.is("none ALLOWED", x.depth(1584), Due.NO);
        Due.is("BAD ahead of NO", x.depth(1585), Due.BAD);
        Due.is("BAD ahead of NO", x.depth(-1), Due.BAD);
        Due.counts("depth", x, 2, 2, 0);
        Due.is("no LAYERS", new PoleRecords().depth(0), Due.NO);
    }

    private static void rateOfLayer() {
        Due.says("Promise 21: By THE MATCH: THICKNESS by YEARS of LAYER j is THE FRACTION: 1");
        PoleRecords x = sample();
        Due.fraction("the first", x, x.rate(0), 2, 3);
        Due.fraction("the last", x, x.rate(1), 4, 5);
        PoleRecords y = Due.with(Due.times(5, 99), new int[] {99});
        y.bound(1, 1, 5);
        Due.fraction("a BLOCK of 5", y, y.rate(0), 1, 5);
        PoleRecords z = Due.with(new int[] {1}, new int[] {99});
        Due.fraction("the greatest", z, z.rate(0), 99, 1);
        y.sets(1, 0, 1);
        y.bound(1, 1, 99);
        Due.fraction("the least of a BLOCK of 1", y, y.rate(0), 1, 99);
    }

    private static void rateBadAndNo() {
        Due.says("Promise 21: BAD; NO");
        PoleRecords x = withoutMatch();
        Due.is("rate(2)", x.rate(2), Due.BAD);
        Due.is("rate(-1)", x.rate(-1), Due.BAD);
        Due.is("rate(0)", x.rate(0), Due.NO);
        Due.is("rate(1)", x.rate(1), Due.NO);
        Due.is("no LAYERS", new PoleRecords().rate(0), Due.BAD);
        Due.counts("rate", x, 2, 2, 0);
    }

    private static void fastestAndSlowest() {
        Due.says("Promise 22: By THE MATCH: the LAYER that lay down fastest (what 0), slowest (1)");
        PoleRecords x = sample();
        Due.is("fastest", x.fastest(0), 1);
        Due.is("slowest", x.fastest(1), 0);
        PoleRecords one = Due.with(new int[] {4}, new int[] {8});
        Due.is("the only one", one.fastest(0), 0);
        Due.is("the only one", one.fastest(1), 0);
        PoleRecords near = Due.with(new int[] {98, 97, 99}, new int[] {97, 96, 98});
        Due.is("98 by 99 ahead of 97 by 98", near.fastest(0), 2);
        Due.is("96 by 97 behind them", near.fastest(1), 1);
        PoleRecords last = Due.with(Due.times(8, 9), new int[] {9, 9, 9, 9, 9, 9, 8, 10});
        Due.is("the last of 8", last.fastest(0), 7);
        Due.is("the one ahead of it", last.fastest(1), 6);
    }

    private static void fastestOfLikeOnes() {
        Due.says("Promise 22: of like ones the least");
        PoleRecords x = Due.with(new int[] {2, 4, 3, 9, 8}, new int[] {4, 8, 6, 9, 8});
        Due.is("2 by 1: LAYERS 0, 1, 2", x.fastest(0), 0);
        Due.is("1 by 1: LAYERS 3, 4", x.fastest(1), 3);
        PoleRecords y = Due.with(new int[] {5, 4, 2}, new int[] {5, 6, 3});
        Due.is("3 by 2: LAYERS 1, 2", y.fastest(0), 1);
        Due.is("1 by 1: LAYER 0", y.fastest(1), 0);
    }

    private static void fastestBadAndNo() {
        Due.says("Promise 22: BAD; NO");
        PoleRecords x = withoutMatch();
        Due.is("fastest(2)", x.fastest(2), Due.BAD);
        Due.is("fastest(-1)", x.fastest(-1), Due.BAD);
        Due.is("fastest(0)", x.fastest(0), Due.NO);
        Due.is("fastest(1)", x.fastest(1), Due.NO);
        Due.is("no LAYERS", new PoleRecords().fastest(0), Due.NO);
        Due.counts("fastest", x, 2, 2, 0);
    }

    private static void partAtFirst() {
        Due.says("Promise 23: THE FRACTION: above (0), below (1); 0 by 1 at first");
        Due.fraction("at first", new PoleRecords(), 1, 0, 1);
    }

    private static void partInLowestTerms() {
        Due.says("Promise 23: lowest terms, below above 0");
        PoleRecords x = Due.with(new int[] {99}, new int[] {66});
        Due.fraction("66 by 99", x, x.rate(0), 2, 3);
        Due.fraction("0 by 66", x, x.age(0), 0, 1);
        x.rate(0);
        Due.fraction("0 by 99", x, x.depth(0), 0, 1);
        Due.fraction("99 by 1", x, x.age(66), 99, 1);
        Due.fraction("3 by 2", x, x.age(1), 3, 2);
        x.sets(1, 0, 99);
        Due.fraction("99 by 99", x, x.rate(0), 1, 1);
        x.sets(1, 0, 98);
        Due.fraction("98 by 99", x, x.rate(0), 98, 99);
    }

    private static void partStays() {
        Due.says("Promise 23: THE FRACTION stays behind all that does not make it anew");
        PoleRecords x = sample();
        x.rate(0);
        x.depth(18);
        x.age(11);
        x.rate(5);
        x.fastest(0);
        x.match(0, 0);
        x.block(0, 0);
        x.misfit(0, 1, 1);
        Due.fraction("behind refused calls and those that ask", x, 1, 2, 3);
        x.sets(0, 0, 4);
        x.sets(1, 0, 7);
        x.span(6);
        x.layer(6);
        x.points(0);
        x.bound(0, 1, 9);
        x.judge(0, 2);
        Due.fraction("behind calls that change one thing", x, 1, 2, 3);
        x.empties(1);
        x.age(0);
        x.depth(9);
        x.draw(7, 7);
        x.reads();
        Due.types(x, "years 5;core north 5;");
        Due.is("reads", x.reads(), 2);
        x.clear();
        x.empties(0);
        x.digest();
        Due.fraction("behind calls that change all else", x, 1, 2, 3);
        Due.counts("age and depth", x, 2, 2, 0);
    }

    private static void partBad() {
        Due.says("Promise 23: BAD");
        PoleRecords x = sample();
        Due.is("part(2)", x.part(2), Due.BAD);
        Due.is("part(-1)", x.part(-1), Due.BAD);
        Due.counts("part", x, 2, 0, 0);
    }
}
