import java.util.List;
import java.util.Random;

/** THE TEXT and its FAULT, as 'Terms' tells them, by reads (promise 26): a method for each sentence. */
public final class TextTest {
    private static final String FEW = "years 5;core north 5;";
    private static final String SIXTEEN = "years 1 2 3 4 5 6 7 8 9 1 2 3 4 5 6 7";
    private static final String EIGHT = "core north 1 2 3 4 5 6 7 8";

    public static void main(String[] args) {
        atMostHundredAndTwenty();
        yearsAndNumbers();
        coreAndPointing();
        signBehindEach();
        oneOrTwoFigures();
        blanksBetween();
        blanksNeeded();
        wordsThatCanNotStand();
        numbersThatCanNotStand();
        signsThatCanNotStand();
        firstOfMany();
        threeFigures();
        nought();
        seventeenth();
        ninth();
        endsTooEarly();
        nothingBehind();
        faultChangesNothing();
        earlierTextsAreGone();
        againstPattern();
        Due.end();
    }

    private static void reads(String text, int... due) {
        PoleRecords x = new PoleRecords();
        Due.types(x, text);
        Due.is("reads '" + text + "'", x.reads(), due.length);
        for (int k = 0; k < due.length; k++) {
            boolean isSpan = k < x.told(4);
            Due.is("number " + k + " of '" + text + "'", x.sets(isSpan ? 0 : 1, isSpan ? k : k - x.told(4), 1), due[k]);
        }
    }

    private static void faultAt(int place, String text) {
        PoleRecords x = new PoleRecords();
        Due.types(x, text);
        Due.is("the TEXT holds '" + text + "'", x.told(3), text.length());
        Due.is("reads '" + text + "'", x.reads(), -10 - place);
    }

    private static void atMostHundredAndTwenty() {
        Due.says("THE TEXT (120 bytes at most)");
        String blanks = " ".repeat(120 - FEW.length());
        PoleRecords x = new PoleRecords();
        Due.types(x, FEW + blanks);
        Due.is("120 bytes", x.told(3), 120);
        Due.is("all read", x.reads(), 2);
        Due.is("one more", x.type('x'), Due.FULL);
        Due.is("is not read", x.reads(), 2);
        faultAt(119, FEW + blanks.substring(1) + "x");
        faultAt(120, " ".repeat(120));
        faultAt(0, "x".repeat(120));
        faultAt(6, "years " + "1".repeat(114));
        reads(" ".repeat(120 - FEW.length()) + FEW, 5, 5);
    }

    private static void yearsAndNumbers() {
        Due.says("years and 1 to 16 numbers");
        reads("years 7;core north 5;", 7, 5);
        reads(SIXTEEN + ";core north 5;", 1, 2, 3, 4, 5, 6, 7, 8, 9, 1, 2, 3, 4, 5, 6, 7, 5);
        faultAt(6, "years ;core north 5;");
        faultAt(SIXTEEN.length() + 1, SIXTEEN + " 8;core north 5;");
    }

    private static void coreAndPointing() {
        Due.says("then core, north or south, and 1 to 8 numbers");
        reads("years 7;" + EIGHT + ";", 7, 1, 2, 3, 4, 5, 6, 7, 8);
        faultAt(19, "years 7;core north ;");
        faultAt(8 + EIGHT.length() + 1, "years 7;" + EIGHT + " 9;");
        faultAt(13, "years 7;core 5;");
        faultAt(13, "years 7;core east 5;");
        faultAt(19, "years 7;core north south 5;");
        for (int south = 0; south < 2; south++) {
            PoleRecords x = new PoleRecords();
            x.points(1 - south);
            Due.types(x, south == 0 ? "years 7;core north 5;" : "years 7;core south 5;");
            Due.is("reads", x.reads(), 2);
            Due.is("how LAYER 0 points", x.told(6), south);
        }
    }

    private static void signBehindEach() {
        Due.says("; behind each");
        faultAt(8, "years 7 core north 5;");
        faultAt(20, "years 7;core north 5");
        faultAt(5, "years;7 core north 5;");
        faultAt(12, "years 7;core;north 5;");
        faultAt(18, "years 7;core north;5;");
        faultAt(8, "years 7;;core north 5;");
        faultAt(21, "years 7;core north 5;;");
    }

    private static void oneOrTwoFigures() {
        Due.says("Numbers have 1 or 2 figures (not 0)");
        reads("years 1 9 10 99;core north 1 9 10 99;", 1, 9, 10, 99, 1, 9, 10, 99);
        reads("years 01 09;core north 05;", 1, 9, 5);
    }

    private static void blanksBetween() {
        Due.says("blanks (32) between");
        reads("  years  7  ;  core  north  5  ;  ", 7, 5);
        for (int c = 0; c < 128; c++) {
            PoleRecords x = new PoleRecords();
            Due.types(x, "years" + (char) c + "7;core north 5;");
            boolean stands = c == 32 || Character.isDigit(c);
            int fault = Character.isLetter(c) ? 0 : 5;
            Due.is("byte " + c, x.reads(), stands ? 2 : -10 - fault);
        }
    }

    private static void blanksNeeded() {
        Due.says("needed only between letters, between figures");
        reads("years7;core north5;", 7, 5);
        reads("years7 8;core south5 6;", 7, 8, 5, 6);
        reads("years78;core south56;", 78, 56);
        faultAt(7, "years7;corenorth5;");
        faultAt(5, "years789;core north5;");
    }

    private static void wordsThatCanNotStand() {
        Due.says("FAULT: the place of the first byte of the first word .. that can not stand there");
        faultAt(0, "core north 5;");
        faultAt(0, "Years 7;");
        faultAt(0, "YEARS 7;");
        faultAt(0, "yea");
        faultAt(0, "year 7;");
        faultAt(0, "yearss 7;");
        faultAt(0, "yearsZ 7;");
        faultAt(2, "  yeart 7;");
        faultAt(0, "ye ars 7;");
        faultAt(7, "years 7core north 5;");
        faultAt(6, "years years 7;");
        faultAt(8, "years 7;north 5;");
        faultAt(8, "years 7;years 7;");
        faultAt(8, "years 7;cor north 5;");
        faultAt(8, "years 7;cores north 5;");
        faultAt(8, "years 7;Core north 5;");
        faultAt(13, "years 7;core core north 5;");
        faultAt(13, "years 7;core nort 5;");
        faultAt(13, "years 7;core northsouth 5;");
        faultAt(13, "years 7;core sout");
        faultAt(13, "years 7;core South 5;");
        faultAt(20, "years 7;core north 5x;");
    }

    private static void numbersThatCanNotStand() {
        Due.says("FAULT: the place of the first byte of the first .. number .. that can not stand there");
        faultAt(0, "7");
        faultAt(1, " 12 years 7;");
        faultAt(8, "years 7;12 core north 5;");
        faultAt(13, "years 7;core 12 north 5;");
        faultAt(22, "years 7;core north 5; 12");
    }

    private static void signsThatCanNotStand() {
        Due.says("FAULT: the place of the first byte of the first .. sign that can not stand there");
        faultAt(0, ";");
        faultAt(0, "\0");
        faultAt(0, "\177");
        faultAt(5, "years-7;");
        faultAt(7, "years 7,8;");
        faultAt(7, "years 7\t8;");
        faultAt(7, "years 7\n8;");
        faultAt(7, "years 7:core north 5;");
        for (char c : new char[] {'/', ':', '@', '[', '`', '{'}) {
            faultAt(5, "years" + c + "7;");
            faultAt(7, "years 7" + c);
            faultAt(18, "years 7;core north" + c + "5;");
        }
    }

    private static void firstOfMany() {
        Due.says("FAULT: .. the first word, number, sign that can not stand there");
        faultAt(6, "years 0 100 x;;");
        faultAt(8, "years 7;5;core east 0;");
        faultAt(10, "years 7 8 123 0 core");
    }

    private static void threeFigures() {
        Due.says("a number of three figures or more .. its first byte");
        faultAt(6, "years 100;core north 5;");
        faultAt(6, "years 001;core north 5;");
        faultAt(6, "years 999;");
        faultAt(8, "years 7 1234567890123456789012");
        faultAt(19, "years 7;core north 100;");
        faultAt(22, "years 7;core north 12 005;");
    }

    private static void nought() {
        Due.says("0 .. its first byte");
        faultAt(6, "years 0;core north 5;");
        faultAt(6, "years 00;core north 5;");
        faultAt(8, "years 7 0;core north 5;");
        faultAt(19, "years 7;core north 0;");
        faultAt(22, "years 7;core north 10 00;");
    }

    private static void seventeenth() {
        Due.says("a 17th .. one: its first byte");
        faultAt(SIXTEEN.length() + 1, SIXTEEN + " 8");
        faultAt(SIXTEEN.length() + 2, SIXTEEN + "  88;core north 5;");
        faultAt(SIXTEEN.length(), SIXTEEN);
        faultAt(SIXTEEN.length() + 1, SIXTEEN + " core");
    }

    private static void ninth() {
        Due.says("a 9th one: its first byte");
        faultAt(8 + EIGHT.length() + 1, "years 7;" + EIGHT + " 9");
        faultAt(8 + EIGHT.length() + 2, "years 7;" + EIGHT + "  99;");
        faultAt(8 + EIGHT.length(), "years 7;" + EIGHT);
        reads("years 1 2 3 4 5 6 7 8 9;core north 5;", 1, 2, 3, 4, 5, 6, 7, 8, 9, 5);
    }

    private static void endsTooEarly() {
        Due.says("the TEXT's length, if it ends too early (an empty one, too)");
        faultAt(0, "");
        faultAt(1, " ");
        String whole = "years 7 88;core south 5 66;";
        String[] words = {"years", "core", "south"};
        for (int length = 0; length < whole.length(); length++) {
            int due = length;
            for (String word : words) {
                int start = whole.indexOf(word);
                due = length > start && length < start + word.length() ? start : due;
            }
            faultAt(due, whole.substring(0, length));
        }
        reads(whole, 7, 88, 5, 66);
    }

    private static void nothingBehind() {
        Due.says("behind the second ; but blanks nothing may stand");
        reads(FEW + "     ", 5, 5);
        faultAt(FEW.length(), FEW + "x");
        faultAt(FEW.length() + 2, FEW + "  5");
        faultAt(FEW.length(), FEW + ";");
        faultAt(FEW.length(), FEW + FEW);
        faultAt(FEW.length(), FEW + "\0");
        faultAt(FEW.length() + 1, FEW + " \n");
    }

    private static void faultChangesNothing() {
        Due.says("By a FAULT all stays, nothing counts");
        String[] texts = {"", "years 9 9 9;core south 9 9", "years 9 9 9;core south 9 9;x", "years 9;core south 9 0;",
            "years 9 9 9;core east", SIXTEEN + " 1;", "years 9;core south 1 2 3 4 5 6 7 8 9;"};
        for (String text : texts) {
            PoleRecords x = Due.with(new int[] {7, 8, 6}, new int[] {7, 8});
            x.bound(0, 1, 3);
            x.judge(0, 1);
            x.rate(0);
            x.told(10);
            Due.types(x, text);
            long before = x.digest();
            Due.isTrue("a FAULT in '" + text + "'", x.reads() <= -10);
            Due.is("behind '" + text + "' all stays", x.digest(), before);
            Due.is("behind '" + text + "' SPAN 0", x.sets(0, 0, 7), 7);
            Due.is("behind '" + text + "' LAYER 1", x.sets(1, 1, 8), 8);
            Due.counts("behind '" + text + "'", x, 1, 0, 0);
        }
    }

    private static void earlierTextsAreGone() {
        Due.says("CALENDAR and CORE become what THE TEXT tells");
        PoleRecords x = new PoleRecords();
        Due.types(x, "years 1 2;core south 1 2;");
        Due.is("reads", x.reads(), 4);
        Due.types(x, "years 1;core north 3;");
        Due.is("reads", x.reads(), 2);
        Due.is("NORTH again", x.told(6), 0);
        Due.is("THICKNESS", x.sets(1, 0, 3), 3);
        Due.is("no LAYER 1", x.sets(1, 1, 3), Due.BAD);
        Due.types(x, "years 1");
        Due.is("the old ; is gone", x.reads(), -17);
        Due.types(x, "year");
        Due.is("the old s is gone", x.reads(), -10);
        Due.types(x, "years 12");
        Due.types(x, "years 1");
        x.type(';');
        Due.is("the old 2 is gone", x.reads(), -18);
    }

    /** Good TEXTS with a few bytes changed, left out or put in between. */
    private static void againstPattern() {
        Due.says("THE TEXT, drawn");
        Random random = new Random(28);
        for (int run = 0; run < 6000; run++) {
            String text = drawnText(random);
            PlainText due = new PlainText(text);
            PoleRecords x = new PoleRecords();
            Due.types(x, text);
            int count = due.spans.size() + due.layers.size();
            Due.is("reads '" + text + "'", x.reads(), due.fault < 0 ? count : -10 - due.fault);
            if (due.fault < 0) {
                Due.is("how LAYER 0 points by '" + text + "'", x.told(6), due.south);
                isRow("YEARS by '" + text + "'", x, 0, due.spans);
                isRow("THICKNESS by '" + text + "'", x, 1, due.layers);
            }
        }
    }

    private static void isRow(String call, PoleRecords x, int what, List<Integer> due) {
        Due.is(call, x.told(4 + what), due.size());
        for (int k = 0; k < due.size(); k++) {
            Due.is(call, x.sets(what, k, 1), due.get(k));
        }
    }

    static String drawnText(Random random) {
        StringBuilder text = new StringBuilder(random.nextInt(4) == 0 ? " years" : "years");
        addNumbers(random, text, 1 + random.nextInt(random.nextInt(4) == 0 ? 17 : 4));
        text.append(random.nextInt(4) == 0 ? "; core" : ";core").append(random.nextBoolean() ? " north" : " south");
        addNumbers(random, text, 1 + random.nextInt(random.nextInt(4) == 0 ? 9 : 3));
        text.append(random.nextInt(4) == 0 ? "; " : ";");
        String pieces = "yearscorenorthsouth0123456789;; \0\t/:@[`{Z\177";
        for (int change = random.nextInt(3); change > 0; change--) {
            int place = random.nextInt(text.length());
            char c = pieces.charAt(random.nextInt(pieces.length()));
            switch (random.nextInt(3)) {
                case 0:
                    text.setCharAt(place, c);
                    break;
                case 1:
                    text.insert(place, c);
                    break;
                default:
                    text.deleteCharAt(place);
            }
        }
        return text.length() > 120 ? text.substring(0, 120) : text.toString();
    }

    private static void addNumbers(Random random, StringBuilder text, int count) {
        for (int k = 0; k < count; k++) {
            text.append(" ".repeat(k == 0 ? random.nextInt(2) : 1 + random.nextInt(8) / 7));
            text.append(random.nextInt(30) == 0 ? random.nextInt(1000) : 1 + random.nextInt(99));
        }
    }
}
