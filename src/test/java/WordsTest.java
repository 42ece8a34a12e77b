/** Promises 24 to 28: type, clear, reads, told, digest. */
public final class WordsTest {
    private static final String FEW = "years 5;core north 5;";

    public static void main(String[] args) {
        typing();
        goodTexts();
        faults();
        nothingIsLeftOver();
        faultChangesNothing();
        mostNumbers();
        telling();
        digesting();
        Due.end();
    }

    private static void typing() {
        PoleRecords x = new PoleRecords();
        Due.is("type(-1)", x.type(-1), -2);
        Due.is("type(128)", x.type(128), -2);
        for (int k = 1; k <= 120; k++) {
            Due.is("type", x.type(k == 1 ? 0 : k == 2 ? 127 : 32), k);
        }
        Due.is("type, FULL", x.type(32), -4);
        Due.is("type, BAD ahead of FULL", x.type(128), -2);
        Due.is("told bytes", x.told(3), 120);
        Due.is("clear", x.clear(), 120);
        Due.is("clear again", x.clear(), 0);
        Due.is("told bytes", x.told(3), 0);
        Due.is("type", x.type(65), 1);
        Due.is("told BAD", x.told(0), 3);
        Due.is("told FULL", x.told(2), 1);
    }

    private static void goodTexts() {
        String[] good = {FEW, "years5;core north5;", " years 5 ; core  south 05 ; ", "years 5;core south5;   ",
            "years 1 2 3;core north 99;", "years 10 01 99 ;core south 1 2 3;"};
        int[] sum = {2, 2, 2, 2, 4, 6};
        int[] south = {0, 0, 1, 1, 0, 1};
        for (int k = 0; k < good.length; k++) {
            PoleRecords x = Due.with(new int[] {7, 7}, new int[] {7, 7, 7});
            x.points(1 - south[k]);
            Due.types(x, good[k]);
            Due.is("reads '" + good[k] + "'", x.reads(), sum[k]);
            Due.is("told how it points", x.told(6), south[k]);
            Due.is("SPANS and LAYERS", x.told(4) + x.told(5), sum[k]);
            Due.is("the TEXT stays", x.told(3), good[k].length());
        }
        PoleRecords x = new PoleRecords();
        Due.types(x, "years 10 01 99 ;core south 1 2 3;");
        x.reads();
        int[] years = {10, 1, 99};
        for (int k = 0; k < 3; k++) {
            Due.is("YEARS", x.sets(0, k, 5), years[k]);
            Due.is("THICKNESS", x.sets(1, k, 5), k + 1);
        }
    }

    private static void faults() {
        Object[][] due = {
            {"", 0}, {"   ", 3}, {"yea", 0}, {"yearsx 1;", 0}, {"Years 1;", 0}, {"years", 5}, {"years ", 6},
            {"5", 0}, {";", 0}, {"core", 0}, {" years;", 6}, {"years 0;", 6}, {"years 00;", 6}, {"years 1 0;", 8},
            {"years 100;", 6}, {"years 1 2 1234", 10}, {"years 1", 7}, {"years 1 ", 8}, {"years 1core", 7},
            {"years 1-2;", 7}, {"years -2;", 6}, {"years 1\t2;", 7}, {"years 1;", 8}, {"years 1;;", 8},
            {"years 1;5", 8}, {"years 1;north", 8}, {"years 1;cor", 8}, {"years 1;cores", 8}, {"years 1;core", 12},
            {"years 1;core 5;", 13}, {"years 1;core;", 12}, {"years 1;core core", 13}, {"years 1;corenorth 1;", 8},
            {"years 1;core nort 1;", 13}, {"years 1;core north", 18}, {"years 1;core north;", 18},
            {"years 1;core north 0", 19}, {"years 1;core north 123;", 19}, {"years 1;core north 12 south", 22},
            {"years 1;core north 1", 20}, {"years 1;core north 1;;", 21}, {"years 1;core north 1;  x", 23},
            {"years 1;core north 1; 5", 22}, {"years 1;core south 1;years", 21}, {"ye ars 1;", 0},
            {"years 1;core so uth 1;", 13}, {"years 1 \0 2;", 8}, {"\0", 0}, {"years 1;core north 1;\0", 21},
            {"yearsa 1;", 0}, {"yearsz 1;", 0}, {"yearsA 1;", 0}, {"yearsZ 1;", 0}, {"years`1;", 5}, {"years{1;", 5},
            {"years@1;", 5}, {"years[1;", 5}, {"years/1;", 5}, {"years:1;", 5}, {"years 9/", 7}, {"years 9:", 7},
        };
        for (Object[] d : due) {
            PoleRecords x = new PoleRecords();
            Due.types(x, (String) d[0]);
            Due.is("reads '" + d[0] + "'", x.reads(), -10 - (Integer) d[1]);
        }
    }

    /** What an earlier TEXT or reading told must not shine through. */
    private static void nothingIsLeftOver() {
        PoleRecords x = new PoleRecords();
        Due.types(x, "years 1 2;core south 1 2;");
        Due.is("reads", x.reads(), 4);
        Due.types(x, "years 1;core north 3;");
        Due.is("reads", x.reads(), 2);
        Due.is("NORTH again", x.told(6), 0);
        Due.is("THICKNESS", x.sets(1, 0, 3), 3);
        Due.types(x, "years 1");
        Due.is("the old ; is gone", x.reads(), -17);
        Due.types(x, "years 1;core north 1");
        Due.types(x, "year");
        Due.is("the old s is gone", x.reads(), -10);
        Due.types(x, "years 12");
        Due.types(x, "years 1");
        x.type(';');
        Due.is("the old 2 is gone", x.reads(), -18);
    }

    private static void faultChangesNothing() {
        PoleRecords x = Due.with(new int[] {7, 7}, new int[] {7});
        Due.types(x, "years 5 5 5;core south 5 5;x");
        long before = x.digest();
        Due.is("reads", x.reads(), -37);
        Due.is("digest", x.digest(), before);
        Due.is("told", x.told(0) + x.told(1) + x.told(2), 0);
    }

    private static void mostNumbers() {
        PoleRecords x = new PoleRecords();
        Due.types(x, "years 1 2 3 4 5 6 7 8 9 1 2 3 4 5 6 7;core north 1 2 3 4 5 6 7 8;");
        Due.is("16 and 8 numbers", x.reads(), 24);
        Due.types(x, "years 1 2 3 4 5 6 7 8 9 1 2 3 4 5 6 7 8;core north 1;");
        Due.is("a 17th number", x.reads(), -10 - 38);
        Due.types(x, "years 1;core north 1 2 3 4 5 6 7 8 99;");
        Due.is("a 9th number", x.reads(), -10 - 35);
        Due.is("told SPANS", x.told(4), 16);
        Due.is("told LAYERS", x.told(5), 8);
    }

    private static void telling() {
        PoleRecords x = Due.with(new int[] {7, 7}, new int[] {7});
        Due.is("told(10)", x.told(10), -2);
        Due.is("told(-1)", x.told(-1), -2);
        x.points(1);
        x.judge(0, 2);
        x.judge(1, 3);
        x.judge(2, 4);
        x.type(65);
        x.empties(0);
        x.alike();
        for (int k = 0; k < 19; k++) {
            x.span(1);
        }
        int[] due = {2, 1, 3, 1, 16, 1, 1, 2, 3, 4};
        for (int what = 0; what < due.length; what++) {
            Due.is("told(" + what + ")", x.told(what), due[what]);
        }
    }

    private static void digesting() {
        Due.is("new", new PoleRecords().digest(), hash(0, 0, 0, 0, 0, 0, 0, 0, 1, 5, 0, 1, 99, 1, 0, 1, -1));
        PoleRecords x = Due.with(new int[] {3, 9, 5}, new int[] {6, 4});
        x.points(1);
        x.rate(0);
        x.told(77);
        x.match(1, 0);
        x.type(99);
        x.bound(0, 2, 6);
        x.bound(1, 4, 2);
        Due.is("digest", x.digest(),
            hash(1, 1, 0, 1, 3, 2, 1, 0, 1, 5, 3, 9, 5, 6, 4, 2, 6, 4, 2, 2, 3, 4));
        Due.is("digest changes nothing", x.digest(),
            hash(1, 1, 0, 1, 3, 2, 1, 0, 1, 5, 3, 9, 5, 6, 4, 2, 6, 4, 2, 2, 3, 4));
        x.bound(1, 1, 2);
        Due.is("digest without a MATCH counts no refusal", x.digest(),
            hash(1, 1, 0, 1, 3, 2, 1, 0, 1, 5, 3, 9, 5, 6, 4, 2, 6, 1, 2, 2, 3, -1));
        Due.is("told NO", x.told(1), 1);
    }

    private static long hash(long... values) {
        long h = 2003;
        for (long v : values) {
            h = 31 * h + v;
        }
        return h;
    }
}
