/** What the tests share: counts and prints every answer that is not the one due. */
final class Due {
    private static int wrong = 0;
    private static int asked = 0;

    private Due() {
    }

    static void is(String call, long got, long want) {
        asked++;
        if (got != want) {
            wrong++;
            if (wrong <= 50) {
                System.out.println(call + " answered " + got + ", due is " + want);
            }
        }
    }

    static void end() {
        System.out.println(asked + " answers, " + wrong + " not as due");
        if (wrong != 0 || asked == 0) {
            System.exit(1);
        }
    }

    static PoleRecords with(int[] spans, int[] layers) {
        PoleRecords x = new PoleRecords();
        for (int years : spans) {
            x.span(years);
        }
        for (int thickness : layers) {
            x.layer(thickness);
        }
        return x;
    }

    static void types(PoleRecords x, String text) {
        x.clear();
        for (int k = 0; k < text.length(); k++) {
            x.type(text.charAt(k));
        }
    }

    static void fraction(String call, PoleRecords x, int got, int above, int below) {
        is(call, got, 1);
        is(call + " above", x.part(0), above);
        is(call + " below", x.part(1), below);
    }
}
