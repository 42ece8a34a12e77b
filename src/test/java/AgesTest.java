/** Promises 19 to 23: age, depth, rate, fastest, part. */
public final class AgesTest {
    public static void main(String[] args) {
        ages();
        depths();
        rates();
        fastestOnes();
        fractionStays();
        refusedNumbers();
        Due.end();
    }

    /** LAYERS of 6 and 4 against SPANS 1 and 2 (9 and 5 years) behind 3 years: first SPAN 1, SOUTH. */
    private static PoleRecords sample() {
        PoleRecords x = Due.with(new int[] {3, 9, 5}, new int[] {6, 4});
        x.points(1);
        return x;
    }

    private static void ages() {
        PoleRecords x = sample();
        Due.fraction("age(0)", x, x.age(0), 3, 1);
        Due.fraction("age(1)", x, x.age(1), 9, 2);
        Due.fraction("age(2)", x, x.age(2), 6, 1);
        Due.fraction("age(6), a tie", x, x.age(6), 12, 1);
        Due.fraction("age(7)", x, x.age(7), 53, 4);
        Due.fraction("age(10), the bottom", x, x.age(10), 17, 1);
        Due.is("age(11)", x.age(11), -2);
    }

    private static void depths() {
        PoleRecords x = sample();
        Due.is("depth(2), younger than the top", x.depth(2), -1);
        Due.fraction("depth(3), the top", x, x.depth(3), 0, 1);
        Due.fraction("depth(4)", x, x.depth(4), 2, 3);
        Due.fraction("depth(12), a tie", x, x.depth(12), 6, 1);
        Due.fraction("depth(13)", x, x.depth(13), 34, 5);
        Due.fraction("depth(17), the bottom", x, x.depth(17), 10, 1);
        Due.is("depth(18), older than the bottom", x.depth(18), -1);
        Due.is("depth(1584)", x.depth(1584), -1);
        Due.is("depth(1585)", x.depth(1585), -2);
        Due.is("depth(-1)", x.depth(-1), -2);
        Due.is("told BAD", x.told(0), 2);
        Due.is("told NO", x.told(1), 0);
    }

    private static void rates() {
        PoleRecords x = sample();
        Due.fraction("rate(0)", x, x.rate(0), 2, 3);
        Due.fraction("rate(1)", x, x.rate(1), 4, 5);
        Due.is("rate(2)", x.rate(2), -2);
        Due.is("rate(-1)", x.rate(-1), -2);
    }

    private static void fastestOnes() {
        PoleRecords x = sample();
        Due.is("fastest", x.fastest(0), 1);
        Due.is("slowest", x.fastest(1), 0);
        PoleRecords y = Due.with(new int[] {2, 4, 3, 9, 8}, new int[] {4, 8, 6, 9, 8});
        Due.is("fastest, of like ones the least", y.fastest(0), 0);
        Due.is("slowest, of like ones the least", y.fastest(1), 3);
        Due.is("fastest(2)", y.fastest(2), -2);
        Due.is("fastest(-1)", y.fastest(-1), -2);
    }

    private static void fractionStays() {
        PoleRecords x = sample();
        x.rate(0);
        x.depth(18);
        x.age(11);
        x.rate(5);
        x.fastest(0);
        x.empties(1);
        x.age(0);
        x.depth(9);
        Due.is("above", x.part(0), 2);
        Due.is("below", x.part(1), 3);
        Due.is("told NO", x.told(1), 2);
        Due.is("part(2)", x.part(2), -2);
        Due.is("part(-1)", x.part(-1), -2);
    }

    private static void refusedNumbers() {
        PoleRecords x = new PoleRecords();
        Due.is("age(0), no LAYERS", x.age(0), -3);
        Due.is("age(1), BAD ahead of NO", x.age(1), -2);
        Due.is("age(-1)", x.age(-1), -2);
        Due.is("age(793)", x.age(793), -2);
        Due.is("depth(0)", x.depth(0), -3);
        Due.is("depth(-1)", x.depth(-1), -2);
        Due.is("rate(0)", x.rate(0), -2);
        Due.is("fastest(0)", x.fastest(0), -3);
        Due.is("fastest(9), BAD ahead of NO", x.fastest(9), -2);
        x.layer(5);
        Due.is("age(5), no SPANS", x.age(5), -3);
        Due.is("age(6)", x.age(6), -2);
        Due.is("rate(0), no SPANS", x.rate(0), -3);
        Due.is("told BAD", x.told(0), 7);
        Due.is("told NO", x.told(1), 5);
        int[] most = new int[16];
        java.util.Arrays.fill(most, 99);
        PoleRecords y = Due.with(most, new int[] {99, 99, 99, 99, 99, 99, 99, 99});
        Due.fraction("age(792)", y, y.age(792), 792, 1);
        Due.is("age(793)", y.age(793), -2);
    }
}
