/** Promises 1 to 7: a new object, span, layer, points, sets, empties, draw. */
public final class CalendarTest {
    public static void main(String[] args) {
        newObject();
        spans();
        layers();
        pointing();
        setting();
        emptying();
        drawing();
        drawingByHand();
        drawingRefused();
        Due.end();
    }

    private static void newObject() {
        PoleRecords x = new PoleRecords();
        int[] told = {0, 0, 0, 0, 0, 0, 0, 0, 1, 5};
        for (int what = 0; what < told.length; what++) {
            Due.is("new told(" + what + ")", x.told(what), told[what]);
        }
        Due.is("new part(0)", x.part(0), 0);
        Due.is("new part(1)", x.part(1), 1);
        Due.is("NONE", PoleRecords.NONE, -1);
        Due.is("BAD", PoleRecords.BAD, -2);
        Due.is("NO", PoleRecords.NO, -3);
        Due.is("FULL", PoleRecords.FULL, -4);
        PoleRecords y = Due.with(new int[] {1}, new int[] {99});
        Due.is("LOW and HIGH at first", y.match(0, 0), 98);
    }

    private static void spans() {
        PoleRecords x = new PoleRecords();
        Due.is("span(0)", x.span(0), -2);
        Due.is("span(-1)", x.span(-1), -2);
        Due.is("span(100)", x.span(100), -2);
        Due.is("span(MIN)", x.span(Integer.MIN_VALUE), -2);
        for (int k = 0; k < 16; k++) {
            Due.is("span " + k, x.span(k == 0 ? 1 : 99), k);
        }
        Due.is("17th span", x.span(5), -4);
        Due.is("17th span, BAD ahead of FULL", x.span(100), -2);
        Due.is("told BAD", x.told(0), 5);
        Due.is("told FULL", x.told(2), 1);
        Due.is("told SPANS", x.told(4), 16);
        Due.is("YEARS of SPAN 0", x.sets(0, 0, 2), 1);
        Due.is("YEARS of SPAN 15", x.sets(0, 15, 2), 99);
    }

    private static void layers() {
        PoleRecords x = new PoleRecords();
        Due.is("layer(0)", x.layer(0), -2);
        Due.is("layer(100)", x.layer(100), -2);
        for (int k = 0; k < 8; k++) {
            Due.is("layer " + k, x.layer(k == 0 ? 1 : 99), k);
        }
        Due.is("9th layer", x.layer(5), -4);
        Due.is("9th layer, BAD ahead of FULL", x.layer(-5), -2);
        Due.is("told BAD", x.told(0), 3);
        Due.is("told FULL", x.told(2), 1);
        Due.is("told LAYERS", x.told(5), 8);
        Due.is("THICKNESS of LAYER 0", x.sets(1, 0, 2), 1);
        Due.is("THICKNESS of LAYER 7", x.sets(1, 7, 2), 99);
    }

    private static void pointing() {
        PoleRecords x = new PoleRecords();
        Due.is("points(1)", x.points(1), 0);
        Due.is("points(1) again", x.points(1), 1);
        Due.is("points(2)", x.points(2), -2);
        Due.is("points(-1)", x.points(-1), -2);
        Due.is("told how it points", x.told(6), 1);
        Due.is("empties keeps it", x.empties(1), 0);
        Due.is("told how it points", x.told(6), 1);
        Due.is("points(0)", x.points(0), 1);
        Due.is("told how it points", x.told(6), 0);
    }

    private static void setting() {
        PoleRecords x = Due.with(new int[] {10, 20}, new int[] {30});
        Due.is("sets(0, 1, 99)", x.sets(0, 1, 99), 20);
        Due.is("sets(0, 1, 1)", x.sets(0, 1, 1), 99);
        Due.is("sets(1, 0, 40)", x.sets(1, 0, 40), 30);
        int[][] bad = {{-1, 0, 1}, {2, 0, 1}, {0, 2, 1}, {0, -1, 1}, {1, 1, 1}, {1, -1, 1},
            {0, 0, 0}, {0, 0, 100}, {1, 0, 0}, {1, 0, 100}};
        for (int[] b : bad) {
            Due.is("sets BAD", x.sets(b[0], b[1], b[2]), -2);
        }
        Due.is("told BAD", x.told(0), bad.length);
        Due.is("SPAN 0 stayed", x.sets(0, 0, 5), 10);
        Due.is("SPAN 1 is set", x.sets(0, 1, 5), 1);
        Due.is("LAYER 0 is set", x.sets(1, 0, 5), 40);
    }

    private static void emptying() {
        PoleRecords x = Due.with(new int[] {10, 20}, new int[] {30});
        Due.is("empties(2)", x.empties(2), -2);
        Due.is("empties(-1)", x.empties(-1), -2);
        Due.is("empties(0)", x.empties(0), 2);
        Due.is("told SPANS", x.told(4), 0);
        Due.is("told LAYERS", x.told(5), 1);
        Due.is("empties(0) again", x.empties(0), 0);
        Due.is("empties(1)", x.empties(1), 1);
        Due.is("told LAYERS", x.told(5), 0);
        Due.is("span comes first again", x.span(7), 0);
        Due.is("told BAD", x.told(0), 2);
    }

    /** Every seed's SPANS and LAYERS, told by the words of promise 7. */
    private static void drawing() {
        for (int seed : new int[] {0, 1, 7, 42, 999999, 123456}) {
            for (int n = 1; n <= 16; n++) {
                PoleRecords x = Due.with(new int[] {1, 2, 3}, new int[] {50, 51, 52, 53});
                x.points(1);
                PlainModel m = new PlainModel();
                int want = m.draw(seed, n);
                Due.is("draw(" + seed + ", " + n + ")", x.draw(seed, n), want);
                Due.is("SPANS", x.told(4), n);
                Due.is("LAYERS", x.told(5), want);
                Due.is("NORTH", x.told(6), 0);
                for (int k = 0; k < n; k++) {
                    Due.is("YEARS of " + k, x.sets(0, k, 1), m.spans.get(k));
                }
                for (int k = 0; k < want; k++) {
                    Due.is("THICKNESS of " + k, x.sets(1, k, 1), m.layers.get(k));
                }
            }
        }
    }

    /** X is 12345 behind seed 0: YEARS 0 and 1; the next X is 1406932606: by 65536 21468, by 4 0 left over. */
    private static void drawingByHand() {
        PoleRecords x = new PoleRecords();
        Due.is("draw(0, 1)", x.draw(0, 1), 1);
        Due.is("YEARS", x.sets(0, 0, 9), 1);
        Due.is("THICKNESS", x.sets(1, 0, 9), 1 + 1406932606 / 1024 % 3);
    }

    private static void drawingRefused() {
        PoleRecords x = Due.with(new int[] {10, 20}, new int[] {30});
        x.points(1);
        int[][] bad = {{-1, 5}, {1000000, 5}, {5, 0}, {5, 17}, {5, -1}};
        for (int[] b : bad) {
            Due.is("draw BAD", x.draw(b[0], b[1]), -2);
        }
        Due.is("told BAD", x.told(0), bad.length);
        Due.is("told SPANS", x.told(4), 2);
        Due.is("told LAYERS", x.told(5), 1);
        Due.is("told SOUTH", x.told(6), 1);
        Due.is("draw keeps the JUDGE", x.judge(1, 4), 1);
        Due.is("draw", x.draw(999999, 16) > 0 ? 1 : 0, 1);
        Due.is("PACE", x.told(8), 4);
    }
}
