/** Promises 24 to 28: type, clear, reads, told, digest; a method for each sentence. TextTest has what TEXTS tell. */
public final class WordsTest {
    private static final String FEW = "years 5 6;core south 7;";

    public static void main(String[] args) {
        typeComesBehind();
        typeBad();
        typeFull();
        clearHowMany();
        readsHowMany();
        readsBecome();
        readsLessTheFault();
        toldHowOften();
        toldState();
        toldBad();
        digestOfNew();
        digestOfAll();
        digestWrapsAround();
        digestWithoutMatch();
        digestChangesNothing();
        Due.end();
    }

    private static void typeComesBehind() {
        Due.says("Promise 24: A byte (0 .. 127) comes behind THE TEXT: how many it has");
        PoleRecords x = new PoleRecords();
        Due.is("the least", x.type(0), 1);
        Due.is("the most", x.type(127), 2);
        Due.is("told", x.told(3), 2);
        x.clear();
        for (int k = 0; k < FEW.length(); k++) {
            Due.is("byte " + k, x.type(FEW.charAt(k)), k + 1);
        }
        Due.is("in their order", x.reads(), 3);
    }

    private static void typeBad() {
        Due.says("Promise 24: BAD");
        PoleRecords x = new PoleRecords();
        for (int c : new int[] {Integer.MIN_VALUE, -1, 128, 255, Integer.MAX_VALUE}) {
            Due.is("type(" + c + ")", x.type(c), Due.BAD);
        }
        Due.is("none came", x.told(3), 0);
        Due.counts("type", x, 5, 0, 0);
    }

    private static void typeFull() {
        Due.says("Promise 24: FULL: 120");
        PoleRecords x = new PoleRecords();
        for (int k = 1; k <= 120; k++) {
            Due.is("byte " + k, x.type(32), k);
        }
        Due.is("a 121st", x.type(32), Due.FULL);
        Due.is("a 121st of 128", x.type(128), Due.BAD);
        Due.is("120 stay", x.told(3), 120);
        Due.counts("type", x, 1, 0, 1);
        x.clear();
        Due.is("room again", x.type(32), 1);
    }

    private static void clearHowMany() {
        Due.says("Promise 25: THE TEXT is empty: how many it had");
        PoleRecords x = new PoleRecords();
        Due.is("none", x.clear(), 0);
        Due.types(x, " ".repeat(120));
        Due.is("120", x.clear(), 120);
        Due.is("none again", x.clear(), 0);
        Due.is("told", x.told(3), 0);
        Due.is("reads", x.reads(), -10);
        Due.types(x, FEW);
        x.reads();
        x.clear();
        Due.is("what was read stays", x.told(4) + x.told(5), 3);
    }

    private static void readsHowMany() {
        Due.says("Promise 26: how many SPANS and LAYERS together");
        PoleRecords x = new PoleRecords();
        Due.types(x, "years 1;core north 1;");
        Due.is("the least", x.reads(), 2);
        Due.types(x, "years 1 1 1 1 1 1 1 1 1 1 1 1 1 1 1 1;core north 1 1 1 1 1 1 1 1;");
        Due.is("the most", x.reads(), 24);
        Due.is("THE TEXT stays", x.told(3), 65);
        Due.is("so it reads again", x.reads(), 24);
    }

    private static void readsBecome() {
        Due.says("Promise 26: CALENDAR and CORE become what THE TEXT tells");
        PoleRecords x = Due.with(Due.times(16, 90), Due.times(8, 91));
        x.judge(0, 2);
        x.bound(0, 1, 99);
        Due.types(x, FEW);
        Due.is("reads", x.reads(), 3);
        Due.is("SPANS, LAYERS, SOUTH, KIND, BOUNDS", x.digest(),
            Due.hash(0, 0, 0, FEW.length(), 2, 1, 1, 2, 1, 5, 5, 6, 7, 1, 99, 99, 1, 0, 1, 1));
        x.span(9);
        x.layer(9);
        x.points(0);
        Due.is("reads again", x.reads(), 3);
        Due.is("all is as told again", x.told(4) + x.told(5) + x.told(6), 4);
    }

    private static void readsLessTheFault() {
        Due.says("Promise 26: -10 less the FAULT");
        PoleRecords x = new PoleRecords();
        Due.is("an empty one", x.reads(), -10);
        Due.types(x, "years 1");
        Due.is("ends too early", x.reads(), -17);
        Due.types(x, " ".repeat(120));
        Due.is("the greatest FAULT", x.reads(), -130);
        Due.counts("reads", x, 0, 0, 0);
    }

    private static void toldHowOften() {
        Due.says("Promise 27: How often refused: BAD (0), NO (1), FULL (2)");
        PoleRecords x = Due.with(Due.times(16, 7), new int[] {});
        Due.counts("at first", x, 0, 0, 0);
        x.span(0);
        Due.counts("BAD", x, 1, 0, 0);
        x.alike();
        x.alike();
        Due.counts("NO", x, 1, 2, 0);
        x.span(1);
        x.span(1);
        x.span(1);
        Due.counts("FULL", x, 1, 2, 3);
    }

    private static void toldState() {
        Due.says("Promise 27: bytes of THE TEXT (3), SPANS (4), LAYERS (5), how LAYER 0 points (6), KIND (7), PACE (8), PENALTY (9)");
        PoleRecords x = Due.with(Due.times(5, 7), Due.times(3, 7));
        x.points(1);
        x.judge(0, 2);
        x.judge(1, 8);
        x.judge(2, 4);
        Due.types(x, "yea    ");
        int[] due = {0, 0, 0, 7, 5, 3, 1, 2, 8, 4};
        for (int what = 0; what < due.length; what++) {
            Due.is("told(" + what + ")", x.told(what), due[what]);
        }
    }

    private static void toldBad() {
        Due.says("Promise 27: BAD");
        PoleRecords x = new PoleRecords();
        Due.is("told(10)", x.told(10), Due.BAD);
        Due.is("told(-1)", x.told(-1), Due.BAD);
        Due.is("told counts its own", x.told(0), 2);
        Due.is("the last that stands", x.told(9), 5);
    }

    private static void digestOfNew() {
        Due.says("Promise 28: h = 2003; then h = 31 h + v for each v");
        Due.is("new", new PoleRecords().digest(), Due.hash(0, 0, 0, 0, 0, 0, 0, 0, 1, 5, 0, 1, 99, 1, 0, 1, -1));
    }

    private static void digestOfAll() {
        Due.says("Promise 28: told(0) to told(9); YEARS of SPANS; THICKNESSES; LOW, HIGH (a, b); THE FRACTION; MISFIT of THE MATCH");
        PoleRecords x = Due.with(new int[] {3, 9, 5}, new int[] {6, 4});
        x.points(1);
        x.rate(0);
        x.told(77);
        x.match(1, 0);
        x.type(99);
        x.bound(0, 2, 6);
        x.bound(1, 4, 2);
        Due.is("digest", x.digest(), Due.hash(1, 1, 0, 1, 3, 2, 1, 0, 1, 5, 3, 9, 5, 6, 4, 2, 6, 4, 2, 2, 3, 4));
        x.judge(0, 1);
        x.judge(1, 2);
        x.judge(2, 9);
        Due.is("by THE JUDGE", x.digest(), Due.hash(1, 1, 0, 1, 3, 2, 1, 1, 2, 9, 3, 9, 5, 6, 4, 2, 6, 4, 2, 2, 3, 180));
    }

    /** 41 values of 31 each go far beyond 64 bits: what is left is Java's long. */
    private static void digestWrapsAround() {
        Due.says("Promise 28: long digest()");
        PoleRecords x = Due.with(Due.times(16, 99), Due.times(8, 99));
        java.math.BigInteger h = java.math.BigInteger.valueOf(2003);
        int[] values = {0, 0, 0, 0, 16, 8, 0, 0, 1, 5, 99, 99, 99, 99, 99, 99, 99, 99, 99, 99, 99, 99, 99, 99, 99, 99,
            99, 99, 99, 99, 99, 99, 99, 99, 0, 1, 99, 1, 0, 1, 0};
        for (int v : values) {
            h = h.multiply(java.math.BigInteger.valueOf(31)).add(java.math.BigInteger.valueOf(v));
        }
        Due.is("full", x.digest(), h.longValue());
    }

    private static void digestWithoutMatch() {
        Due.says("Promise 28: (-1: none)");
        PoleRecords x = Due.with(new int[] {3}, new int[] {6});
        x.bound(1, 1, 1);
        Due.is("none", x.digest(), Due.hash(0, 0, 0, 0, 1, 1, 0, 0, 1, 5, 3, 6, 0, 1, 1, 1, 0, 1, -1));
        Due.counts("it is not refused", x, 0, 0, 0);
    }

    private static void digestChangesNothing() {
        Due.says("Promise 28: digest tells alone");
        PoleRecords x = Due.with(new int[] {3, 4, 5}, new int[] {6});
        long once = x.digest();
        Due.is("twice", x.digest(), once);
        x.bound(0, 99, 1);
        long without = x.digest();
        Due.is("without a MATCH", x.digest(), without);
    }
}
