/** Promises 1 to 7: a new object, span, layer, points, sets, empties, draw; a method for each sentence. */
public final class CalendarTest {
    public static void main(String[] args) {
        newObject();
        spanComes();
        spanBadAndFull();
        layerComes();
        layerBadAndFull();
        pointsAsItDid();
        pointsBad();
        setsWhatTheyWere();
        setsBad();
        emptiesHowMany();
        emptiesBad();
        drawTakesThePlaceOfAll();
        drawSeedsAndNumbersAtTheEdges();
        drawYears();
        drawFewerThanEight();
        drawASpanIsLeft();
        drawBlockOfThree();
        drawThickness();
        drawPointsNorth();
        drawBad();
        drawByModel();
        Due.end();
    }

    private static void newObject() {
        Due.says("Promise 1: As told; no SPANS, no LAYERS");
        PoleRecords x = new PoleRecords();
        int[] told = {0, 0, 0, 0, 0, 0, 0, 0, 1, 5};
        for (int what = 0; what < told.length; what++) {
            Due.is("told(" + what + ")", x.told(what), told[what]);
        }
        Due.fraction("THE FRACTION", x, 1, 0, 1);
        Due.is("many", x.many(), 0);
        Due.is("begins", x.begins(), 0);
        Due.is("unbound", x.unbound(), Due.NONE);
        Due.is("no SPAN", x.from(0), Due.BAD);
        Due.is("no LAYER", x.rate(0), Due.BAD);
        Due.is("an empty TEXT", x.reads(), -10);
        Due.is("NONE", PoleRecords.NONE, -1);
        Due.is("BAD", PoleRecords.BAD, -2);
        Due.is("NO", PoleRecords.NO, -3);
        Due.is("FULL", PoleRecords.FULL, -4);
        PoleRecords y = new PoleRecords();
        y.span(3);
        y.judge(0, 3);
        y.points(1);
        Due.is("objects share nothing", new PoleRecords().told(4) + new PoleRecords().told(7), 0);
    }

    private static void spanComes() {
        Due.says("Promise 2: A SPAN comes: its number");
        comesWithItsNumber(0, 16);
    }

    private static void spanBadAndFull() {
        Due.says("Promise 2: BAD; FULL");
        comesBadAndFull(0, 16);
    }

    private static void layerComes() {
        Due.says("Promise 3: A LAYER comes: its number");
        comesWithItsNumber(1, 8);
    }

    private static void layerBadAndFull() {
        Due.says("Promise 3: BAD; FULL");
        comesBadAndFull(1, 8);
    }

    private static void comesWithItsNumber(int what, int most) {
        PoleRecords x = new PoleRecords();
        for (int k = 0; k < most; k++) {
            Due.is("number " + k, Due.comes(x, what, 99 - k), k);
            Due.is("how many", x.told(4 + what), k + 1);
        }
        for (int k = 0; k < most; k++) {
            Due.is("size of " + k, x.sets(what, k, 1), 99 - k);
        }
        Due.is("none of the others", x.told(5 - what), 0);
    }

    private static void comesBadAndFull(int what, int most) {
        PoleRecords x = new PoleRecords();
        int[] bad = {Integer.MIN_VALUE, -1, 0, 100, Integer.MAX_VALUE};
        for (int size : bad) {
            Due.is("of " + size, Due.comes(x, what, size), Due.BAD);
        }
        for (int k = 0; k < most; k++) {
            Due.is("number " + k, Due.comes(x, what, 7), k);
        }
        Due.is("one too many", Due.comes(x, what, 7), Due.FULL);
        Due.is("one too many, of 100", Due.comes(x, what, 100), Due.BAD);
        Due.is("one too many, of 0", Due.comes(x, what, 0), Due.BAD);
        x.empties(what);
        Due.is("room again", Due.comes(x, what, 7), 0);
        Due.counts("behind all", x, bad.length + 2, 0, 1);
    }

    private static void pointsAsItDid() {
        Due.says("Promise 4: How LAYER 0 points: how it did");
        PoleRecords x = new PoleRecords();
        Due.is("points(1)", x.points(1), 0);
        Due.is("told", x.told(6), 1);
        Due.is("points(1) again", x.points(1), 1);
        Due.is("points(0)", x.points(0), 1);
        Due.is("told", x.told(6), 0);
        Due.is("points(0) again", x.points(0), 0);
    }

    private static void pointsBad() {
        Due.says("Promise 4: BAD");
        PoleRecords x = new PoleRecords();
        x.points(1);
        for (int south : new int[] {Integer.MIN_VALUE, -1, 2, Integer.MAX_VALUE}) {
            Due.is("points(" + south + ")", x.points(south), Due.BAD);
        }
        Due.is("SOUTH stays", x.told(6), 1);
        Due.counts("points", x, 4, 0, 0);
    }

    private static void setsWhatTheyWere() {
        Due.says("Promise 5: YEARS of a SPAN (what 0), THICKNESS of a LAYER (1) become v: what they were");
        PoleRecords x = Due.with(new int[] {10, 20}, new int[] {30, 40});
        Due.is("the most", x.sets(0, 1, 99), 20);
        Due.is("the least", x.sets(0, 1, 1), 99);
        Due.is("SPAN 1 is set", x.sets(0, 1, 5), 1);
        Due.is("SPAN 0 stayed", x.sets(0, 0, 5), 10);
        Due.is("LAYER 0", x.sets(1, 0, 99), 30);
        Due.is("LAYER 0 is set", x.sets(1, 0, 1), 99);
        Due.is("LAYER 1 stayed", x.sets(1, 1, 41), 40);
    }

    private static void setsBad() {
        Due.says("Promise 5: BAD: there is none, too");
        PoleRecords x = Due.with(new int[] {10, 20}, new int[] {30});
        int[][] bad = {{-1, 0, 1}, {2, 0, 1}, {0, 2, 1}, {0, -1, 1}, {1, 1, 1}, {1, -1, 1},
            {0, 0, 0}, {0, 0, 100}, {1, 0, 0}, {1, 0, 100}};
        for (int[] b : bad) {
            Due.is("sets(" + b[0] + ", " + b[1] + ", " + b[2] + ")", x.sets(b[0], b[1], b[2]), Due.BAD);
        }
        Due.counts("sets", x, bad.length, 0, 0);
        Due.is("none came by it", x.told(4) + x.told(5), 3);
        x.empties(0);
        Due.is("gone ones are none", x.sets(0, 0, 1), Due.BAD);
    }

    private static void emptiesHowMany() {
        Due.says("Promise 6: All SPANS (what 0), LAYERS (1) go: how many there were");
        PoleRecords x = Due.with(Due.times(16, 3), Due.times(8, 4));
        x.points(1);
        Due.is("16 SPANS", x.empties(0), 16);
        Due.is("SPANS", x.told(4), 0);
        Due.is("LAYERS stay", x.told(5), 8);
        Due.is("none left", x.empties(0), 0);
        Due.is("8 LAYERS", x.empties(1), 8);
        Due.is("LAYERS", x.told(5), 0);
        Due.is("none left", x.empties(1), 0);
        Due.is("SPAN 0 comes", x.span(7), 0);
        Due.is("LAYER 0 comes", x.layer(7), 0);
        Due.is("how LAYER 0 points stays as told", x.told(6), 1);
        PoleRecords y = Due.with(Due.times(2, 3), Due.times(1, 4));
        Due.is("LAYERS go alone", y.empties(1), 1);
        Due.is("SPANS stay", y.told(4), 2);
    }

    private static void emptiesBad() {
        Due.says("Promise 6: BAD");
        PoleRecords x = Due.with(new int[] {10, 20}, new int[] {30});
        for (int what : new int[] {Integer.MIN_VALUE, -1, 2, Integer.MAX_VALUE}) {
            Due.is("empties(" + what + ")", x.empties(what), Due.BAD);
        }
        Due.is("all stay", x.told(4) + x.told(5), 3);
        Due.counts("empties", x, 4, 0, 0);
    }

    /** Draws on an object that has SPANS, LAYERS and SOUTH already. */
    private static PoleRecords drawn(int seed, int n, int layers) {
        PoleRecords x = Due.with(Due.times(16, 90), Due.times(8, 91));
        x.points(1);
        Due.is("draw(" + seed + ", " + n + ")", x.draw(seed, n), layers);
        Due.is("SPANS of draw(" + seed + ", " + n + ")", x.told(4), n);
        Due.is("LAYERS of draw(" + seed + ", " + n + ")", x.told(5), layers);
        return x;
    }

    private static void drawsAre(int seed, int[] years, int[] thicknesses) {
        PoleRecords x = drawn(seed, years.length, thicknesses.length);
        for (int k = 0; k < years.length; k++) {
            Due.is("YEARS of SPAN " + k + " by " + seed, x.sets(0, k, 1), years[k]);
        }
        for (int k = 0; k < thicknesses.length; k++) {
            Due.is("THICKNESS of LAYER " + k + " by " + seed, x.sets(1, k, 1), thicknesses[k]);
        }
    }

    private static void drawTakesThePlaceOfAll() {
        Due.says("Promise 7: n (1 .. 16) SPANS take the place of all, and LAYERS of them");
        PoleRecords x = drawn(0, 1, 1);
        Due.is("the 2nd SPAN is gone", x.from(1), Due.BAD);
        Due.is("the 2nd LAYER is gone", x.rate(1), Due.BAD);
        x.judge(0, 3);
        x.judge(1, 4);
        x.judge(2, 6);
        x.bound(0, 50, 1);
        x.bound(1, 60, 2);
        Due.types(x, "yea");
        x.draw(82, 3);
        Due.is("refusals, THE TEXT, THE JUDGE, LOW, HIGH and THE FRACTION stay", x.digest(),
            Due.hash(2, 0, 0, 3, 3, 3, 0, 3, 4, 6, 6, 10, 19, 6, 11, 21, 50, 1, 60, 2, 0, 1, -1));
        Due.is("THE TEXT stays", x.reads(), -10);
    }

    /** Worked out apart from any Java, by the words of the document. */
    private static void drawSeedsAndNumbersAtTheEdges() {
        Due.says("Promise 7: X is SEED (0 .. 999999) at first; n (1 .. 16)");
        drawsAre(0, new int[] {1}, new int[] {3});
        drawsAre(999999, new int[] {9}, new int[] {9});
        drawsAre(0, new int[] {1, 9, 9, 18, 19, 8, 6, 2, 3, 11, 2, 13, 20, 19, 8, 16},
            new int[] {19, 19, 33, 3, 16, 13, 21, 20});
        drawsAre(999999, new int[] {9, 19, 4, 20, 3, 14, 16, 10, 1, 9, 2, 2, 20, 14, 7, 20},
            new int[] {11, 20, 6, 38, 18, 20, 4, 2});
    }

    private static void drawYears() {
        Due.says("Promise 7: YEARS of each SPAN X by 65536 (cut), by 20 left over, and 1");
        drawsAre(224, new int[] {1, 20}, new int[] {3, 20});
    }

    private static void drawFewerThanEight() {
        Due.says("Promise 7: as long as there are fewer than 8");
        drawsAre(4, new int[] {18, 7, 12, 12, 8, 17, 19, 2}, new int[] {19, 7, 14, 14, 9, 18, 21, 3});
        drawsAre(4, new int[] {18, 7, 12, 12, 8, 17, 19, 2, 3}, new int[] {18, 9, 14, 13, 9, 19, 20, 3});
        drawsAre(1, new int[] {19, 19, 14, 16, 12, 8, 11, 20, 13, 7, 10, 8, 5, 1, 6, 4},
            new int[] {20, 20, 16, 16, 14, 9, 13, 21});
    }

    private static void drawASpanIsLeft() {
        Due.says("Promise 7: as long as .. a SPAN is left");
        drawsAre(101, new int[] {2, 4, 8, 18, 1, 2, 16, 11, 3, 16, 1, 19, 10, 10, 19, 15},
            new int[] {16, 21, 31, 38, 10, 44});
        drawsAre(0, new int[] {1, 9, 9}, new int[] {3, 10, 11});
    }

    private static void drawBlockOfThree() {
        Due.says("Promise 7: a BLOCK of 3, if X by 65536, by 4 leaves 0 over and 3 are left, else of 1");
        drawsAre(3, new int[] {8, 8, 6}, new int[] {23});
        drawsAre(1, new int[] {19, 19, 14}, new int[] {19, 21, 15});
        drawsAre(0, new int[] {1, 9}, new int[] {2, 11});
        drawsAre(17, new int[] {8, 13, 6, 8}, new int[] {27, 8});
        drawsAre(5, new int[] {16, 18, 17, 18, 14}, new int[] {52, 20, 15});
    }

    private static void drawThickness() {
        Due.says("Promise 7: THICKNESS its YEARS, and X by 1024 by 3 left over");
        drawsAre(82, new int[] {6, 10, 19}, new int[] {6, 11, 21});
    }

    private static void drawPointsNorth() {
        Due.says("Promise 7: LAYER 0 points NORTH");
        Due.is("behind SOUTH", drawn(7, 16, 8).told(6), 0);
    }

    private static void drawBad() {
        Due.says("Promise 7: BAD");
        PoleRecords x = Due.with(new int[] {10, 20}, new int[] {30});
        x.points(1);
        int[][] bad = {{-1, 5}, {1000000, 5}, {5, 0}, {5, 17}, {5, -1}, {Integer.MIN_VALUE, 1}, {0, Integer.MAX_VALUE}};
        for (int[] b : bad) {
            Due.is("draw(" + b[0] + ", " + b[1] + ")", x.draw(b[0], b[1]), Due.BAD);
        }
        Due.counts("draw", x, bad.length, 0, 0);
        Due.is("SPANS stay", x.told(4), 2);
        Due.is("YEARS stay", x.sets(0, 1, 20), 20);
        Due.is("LAYERS stay", x.told(5), 1);
        Due.is("SOUTH stays", x.told(6), 1);
    }

    private static void drawByModel() {
        Due.says("Promise 7, by the model");
        for (int seed : new int[] {0, 1, 7, 42, 999999, 123456}) {
            for (int n = 1; n <= 16; n++) {
                PlainModel m = new PlainModel();
                m.draw(seed, n);
                drawsAre(seed, m.spans.stream().mapToInt(v -> v).toArray(), m.layers.stream().mapToInt(v -> v).toArray());
            }
        }
    }
}
