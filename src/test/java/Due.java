/** What the tests share: counts and prints every answer that is not the one due. */
final class Due {
    static final int NONE = -1, BAD = -2, NO = -3, FULL = -4;
    private static final int MOST_PRINTED = 50;
    private static int wrong = 0;
    private static int asked = 0;
    private static String sentence = "";

    private Due() {
    }

    /** The document's sentence that the next answers hold to; printed ahead of a wrong one. */
    static void says(String words) {
        sentence = "[" + words + "] ";
    }

    static void is(String call, long got, long want) {
        asked++;
        if (got != want) {
            wrong++;
            if (wrong <= MOST_PRINTED) {
                System.out.println(sentence + call + " answered " + got + ", due is " + want);
            }
        }
    }

    static void isTrue(String what, boolean holds) {
        is(what, holds ? 1 : 0, 1);
    }

    static void end() {
        System.out.println(asked + " answers, " + wrong + " not as due");
        if (wrong != 0 || asked == 0) {
            System.exit(1);
        }
    }

    static PoleRecords with(int[] spans, int[] layers) {
        PoleRecords x = new PoleRecords();
        fill(x, spans, layers);
        return x;
    }

    static void fill(PoleRecords x, int[] spans, int[] layers) {
        for (int years : spans) {
            x.span(years);
        }
        for (int thickness : layers) {
            x.layer(thickness);
        }
    }

    /** A SPAN (what 0) or a LAYER (1) comes. */
    static int comes(PoleRecords x, int what, int size) {
        return what == 0 ? x.span(size) : x.layer(size);
    }

    static int[] times(int count, int value) {
        int[] all = new int[count];
        java.util.Arrays.fill(all, value);
        return all;
    }

    static void types(PoleRecords x, String text) {
        x.clear();
        for (int k = 0; k < text.length(); k++) {
            x.type(text.charAt(k));
        }
    }

    static void fraction(String call, PoleRecords x, int got, int above, int below) {
        is(call, got, 1);
        is(call + " above", x.part(0), above);
        is(call + " below", x.part(1), below);
    }

    static void blocks(String call, PoleRecords x, int which, int... due) {
        for (int j = 0; j < due.length; j++) {
            is(call + ", BLOCK of LAYER " + j, x.block(which, j), due[j]);
        }
    }

    static void counts(String call, PoleRecords x, int bad, int no, int full) {
        is(call + ", how often BAD", x.told(0), bad);
        is(call + ", how often NO", x.told(1), no);
        is(call + ", how often FULL", x.told(2), full);
    }

    static long hash(long... values) {
        long h = 2003;
        for (long v : values) {
            h = 31 * h + v;
        }
        return h;
    }

    /**
     * The digest as it would be had nothing been refused: all that a refused call must leave as it was,
     * but for the bytes of THE TEXT, which no digest has.
     */
    static long withoutCounts(PoleRecords x) {
        int behindCounts = 7 + x.told(4) + x.told(5) + 4 + 2 + 1;
        long weight = 1;
        for (int k = 0; k < behindCounts; k++) {
            weight *= 31;
        }
        return x.digest() - weight * (x.told(2) + 31L * x.told(1) + 31L * 31L * x.told(0));
    }
}
