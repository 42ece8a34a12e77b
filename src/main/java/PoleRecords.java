import java.util.Arrays;

/**
 * Lays the LAYERS of a core against a calendar of SPANS, by which way the needle pointed.
 * Words in capitals are those of the document.
 */
public final class PoleRecords {
    public static final int NONE = -1, BAD = -2, NO = -3, FULL = -4;

    private static final int MOST_SPANS = 16;
    private static final int MOST_LAYERS = 8;
    private static final int MOST_BYTES = 120;
    private static final int MOST_SIZE = 99;
    private static final int MOST_SEED = 999999;
    private static final int MOST_AGE = 1584;
    private static final int MOST_COUNTED = 1000000000;
    private static final int LONGEST_BLOCK = 5;
    private static final int KINDS = 4;
    private static final int KIND = 0;
    private static final int THE_MATCH = 0;
    private static final int TOLD_LAST = 9;

    private final Site site = new Site();
    private final Bounds bounds = new Bounds();
    private final Bounds widest = new Bounds();
    private final Judge theJudge = new Judge();
    private final Search search = new Search(site, theJudge);
    private final Match found = new Match(site);
    private final Fraction fraction = new Fraction();
    private final Row text = new Row(MOST_BYTES);
    private final Reader reader = new Reader(text);
    private int badTimes;
    private int noTimes;
    private int fullTimes;

    public PoleRecords() {
    }

    // ---- calendar and core

    public int span(int years) {
        return comesBehind(site.spans, years);
    }

    public int layer(int thickness) {
        return comesBehind(site.layers, thickness);
    }

    public int points(int south) {
        if (!isEither(south)) {
            return refuse(BAD);
        }
        int was = site.south;
        site.south = south;
        return was;
    }

    public int sets(int what, int k, int v) {
        if (!isEither(what) || !site.rowOf(what).has(k) || !isSize(v)) {
            return refuse(BAD);
        }
        Row row = site.rowOf(what);
        int was = row.at(k);
        row.put(k, v);
        return was;
    }

    public int empties(int what) {
        if (!isEither(what)) {
            return refuse(BAD);
        }
        return site.rowOf(what).dropAll();
    }

    public int draw(int seed, int n) {
        if (seed < 0 || seed > MOST_SEED || n < 1 || n > MOST_SPANS) {
            return refuse(BAD);
        }
        site.becomesDrawn(seed, n);
        return site.layers.size();
    }

    // ---- how it is judged

    public int bound(int which, int a, int b) {
        if (!isEither(which) || a < 0 || a > MOST_SIZE || !isSize(b)) {
            return refuse(BAD);
        }
        bounds.put(which, a, b);
        return 1;
    }

    public int judge(int what, int v) {
        if (!theJudge.mayBe(what, v)) {
            return refuse(BAD);
        }
        int was = theJudge.at(what);
        theJudge.put(what, v);
        return was;
    }

    public int misfit(int j, int i, int block) {
        if (!site.layers.has(j) || !site.spans.has(i) || !isBlock(block)) {
            return refuse(BAD);
        }
        return search.cost(bounds, theJudge.at(KIND), j, i, block);
    }

    // ---- matches

    public int match(int which, int what) {
        if (!isEither(which) || what < 0 || what > 3) {
            return refuse(BAD);
        }
        if (!finds(which)) {
            return refuse(NO);
        }
        switch (what) {
            case 0:
                return found.sum;
            case 1:
                return found.first;
            case 2:
                return found.missed();
            default:
                return found.behind();
        }
    }

    public int block(int which, int j) {
        if (!isEither(which) || !site.layers.has(j)) {
            return refuse(BAD);
        }
        if (!finds(which)) {
            return refuse(NO);
        }
        return found.blocks.at(j);
    }

    public int many() {
        searches();
        return Math.min(MOST_COUNTED, search.allWays());
    }

    public int alike() {
        searches();
        if (search.least() == NONE) {
            return refuse(NO);
        }
        return Math.min(MOST_COUNTED, search.leastWays());
    }

    public int begins() {
        searches();
        int bits = 0;
        for (int i = 0; i < site.spans.size(); i++) {
            if (search.leastFrom(i) != NONE) {
                bits |= 1 << i;
            }
        }
        return bits;
    }

    public int from(int i) {
        if (!site.spans.has(i)) {
            return refuse(BAD);
        }
        searches();
        return search.leastFrom(i);
    }

    public int mildest(int what) {
        if (!isEither(what)) {
            return refuse(BAD);
        }
        int mildestKind = NONE;
        int least = NONE;
        for (int kind = 0; kind < KINDS; kind++) {
            search.fill(bounds, kind);
            int sum = search.least();
            if (sum != NONE && (least == NONE || sum < least)) {
                mildestKind = kind;
                least = sum;
            }
        }
        if (least == NONE) {
            return refuse(NO);
        }
        return what == 0 ? mildestKind : least;
    }

    public int unbound() {
        search.fill(widest, theJudge.at(KIND));
        return search.least();
    }

    // ---- ages

    public int age(int d) {
        if (d < 0 || d > site.layers.total()) {
            return refuse(BAD);
        }
        if (!finds(THE_MATCH)) {
            return refuse(NO);
        }
        found.tellAge(d, fraction);
        return 1;
    }

    public int depth(int y) {
        if (y < 0 || y > MOST_AGE) {
            return refuse(BAD);
        }
        if (!finds(THE_MATCH)) {
            return refuse(NO);
        }
        if (y < found.topAge() || y > found.bottomAge()) {
            return NONE;
        }
        found.tellDepth(y, fraction);
        return 1;
    }

    public int rate(int j) {
        if (!site.layers.has(j)) {
            return refuse(BAD);
        }
        if (!finds(THE_MATCH)) {
            return refuse(NO);
        }
        fraction.becomes(site.layers.at(j), found.yearsOf(j));
        return 1;
    }

    public int fastest(int what) {
        if (!isEither(what)) {
            return refuse(BAD);
        }
        if (!finds(THE_MATCH)) {
            return refuse(NO);
        }
        return found.extremeLayer(what == 0);
    }

    public int part(int what) {
        if (!isEither(what)) {
            return refuse(BAD);
        }
        return what == 0 ? fraction.above : fraction.below;
    }

    // ---- words

    public int type(int c) {
        if (c < 0 || c > 127) {
            return refuse(BAD);
        }
        if (text.isFull()) {
            return refuse(FULL);
        }
        text.add(c);
        return text.size();
    }

    public int clear() {
        return text.dropAll();
    }

    public int reads() {
        if (!reader.readsAll()) {
            return -10 - reader.place;
        }
        site.becomesLike(reader.site);
        return site.spans.size() + site.layers.size();
    }

    public int told(int what) {
        if (what < 0 || what > TOLD_LAST) {
            return refuse(BAD);
        }
        return tells(what);
    }

    public long digest() {
        long h = 2003;
        for (int what = 0; what <= TOLD_LAST; what++) {
            h = 31 * h + tells(what);
        }
        h = site.spans.mixedInto(h);
        h = site.layers.mixedInto(h);
        h = bounds.mixedInto(h);
        h = 31 * h + fraction.above;
        h = 31 * h + fraction.below;
        searches();
        return 31 * h + search.least();
    }

    // ---- what the calls share

    private int refuse(int why) {
        if (why == BAD) {
            badTimes++;
        } else if (why == NO) {
            noTimes++;
        } else {
            fullTimes++;
        }
        return why;
    }

    private int comesBehind(Row row, int size) {
        if (!isSize(size)) {
            return refuse(BAD);
        }
        if (row.isFull()) {
            return refuse(FULL);
        }
        row.add(size);
        return row.size() - 1;
    }

    private void searches() {
        search.fill(bounds, theJudge.at(KIND));
    }

    private boolean finds(int which) {
        search.fill(bounds, theJudge.at(KIND));
        return search.traces(which, found);
    }

    private int tells(int what) {
        switch (what) {
            case 0:
                return badTimes;
            case 1:
                return noTimes;
            case 2:
                return fullTimes;
            case 3:
                return text.size();
            case 4:
                return site.spans.size();
            case 5:
                return site.layers.size();
            case 6:
                return site.south;
            default:
                return theJudge.at(what - 7);
        }
    }

    private static boolean isEither(int what) {
        return what == 0 || what == 1;
    }

    private static boolean isSize(int v) {
        return v >= 1 && v <= MOST_SIZE;
    }

    private static boolean isBlock(int block) {
        return block == 1 || block == 3 || block == LONGEST_BLOCK;
    }

    /** Some numbers in a row, as many as it was made for at most. */
    private static final class Row {
        private final int[] values;
        private int count;

        Row(int most) {
            values = new int[Math.max(0, most)];
        }

        int size() {
            return count;
        }

        boolean isFull() {
            return count >= values.length;
        }

        boolean has(int k) {
            return k >= 0 && k < count;
        }

        /** 0 where there is none, so that no index can be wrong. */
        int at(int k) {
            return k >= 0 && k < count ? values[k] : 0;
        }

        void put(int k, int v) {
            if (has(k)) {
                values[k] = v;
            }
        }

        void add(int v) {
            if (!isFull()) {
                values[count] = v;
                count++;
            }
        }

        int dropAll() {
            int had = count;
            count = 0;
            return had;
        }

        void becomesLike(Row other) {
            dropAll();
            for (int k = 0; k < other.size(); k++) {
                add(other.at(k));
            }
        }

        /** The first ones together, below the place `end`. */
        int totalBelow(int end) {
            int sum = 0;
            for (int k = 0; k < count && k < end; k++) {
                sum += values[k];
            }
            return sum;
        }

        int total() {
            return totalBelow(count);
        }

        long mixedInto(long h) {
            long mixed = h;
            for (int k = 0; k < count; k++) {
                mixed = 31 * mixed + values[k];
            }
            return mixed;
        }
    }

    /** CALENDAR and CORE. */
    private static final class Site {
        private final Row spans = new Row(MOST_SPANS);
        private final Row layers = new Row(MOST_LAYERS);
        private int south;

        Row rowOf(int what) {
            return what == 0 ? spans : layers;
        }

        boolean agrees(int j, int i) {
            return ((south + j) & 1) == (i & 1);
        }

        int yearsFrom(int i, int block) {
            int years = 0;
            for (int k = 0; k < block; k++) {
                years += spans.at(i + k);
            }
            return years;
        }

        void becomesLike(Site other) {
            spans.becomesLike(other.spans);
            layers.becomesLike(other.layers);
            south = other.south;
        }

        void becomesDrawn(int seed, int n) {
            long x = drawSpans(seed, n);
            drawLayers(x);
            south = 0;
        }

        private long drawSpans(int seed, int n) {
            long x = seed;
            spans.dropAll();
            for (int k = 0; k < n; k++) {
                x = nextDrawn(x);
                spans.add((int) (x / 65536 % 20) + 1);
            }
            return x;
        }

        private void drawLayers(long drawn) {
            long x = drawn;
            int i = 0;
            layers.dropAll();
            for (int j = 0; j < MOST_LAYERS && i < spans.size(); j++) {
                x = nextDrawn(x);
                boolean takesThree = x / 65536 % 4 == 0 && spans.size() - i >= 3;
                int length = takesThree ? 3 : 1;
                layers.add(yearsFrom(i, length) + (int) (x / 1024 % 3));
                i += length;
            }
        }

        private static long nextDrawn(long x) {
            return (x * 1103515245L + 12345L) % 2147483648L;
        }
    }

    /** LOW and HIGH. */
    private static final class Bounds {
        private int lowAbove = 0;
        private int lowBelow = 1;
        private int highAbove = MOST_SIZE;
        private int highBelow = 1;

        void put(int which, int above, int below) {
            if (which == 0) {
                lowAbove = above;
                lowBelow = below;
            } else {
                highAbove = above;
                highBelow = below;
            }
        }

        /** By products across, so that nothing is cut by a division. */
        boolean allow(int thickness, int years) {
            return thickness * lowBelow >= lowAbove * years
                && thickness * highBelow <= highAbove * years;
        }

        long mixedInto(long h) {
            long mixed = 31 * h + lowAbove;
            mixed = 31 * mixed + lowBelow;
            mixed = 31 * mixed + highAbove;
            return 31 * mixed + highBelow;
        }
    }

    /** THE JUDGE's KIND (0), PACE (1) and PENALTY (2). */
    private static final class Judge {
        private static final int[] LEAST = {0, 1, 0};
        private static final int[] MOST = {3, 9, 99};
        private static final int PACE = 1;
        private static final int PENALTY = 2;

        private final int[] settings = {0, 1, 5};

        private boolean has(int what) {
            return what >= 0 && what < settings.length;
        }

        boolean mayBe(int what, int v) {
            return has(what) && v >= LEAST[what] && v <= MOST[what];
        }

        int at(int what) {
            return has(what) ? settings[what] : 0;
        }

        void put(int what, int v) {
            if (has(what)) {
                settings[what] = v;
            }
        }

        int weigh(int kind, int thickness, int years, int pairs) {
            int plain = Math.abs(thickness - settings[PACE] * years);
            int strict = plain + settings[PENALTY] * pairs;
            switch (kind) {
                case 1:
                    return plain * plain;
                case 2:
                    return strict;
                case 3:
                    return 2 * strict;
                default:
                    return plain;
            }
        }
    }

    /**
     * The best two ways (ranks 0 and 1) to lay the LAYERS from j on against the SPANS from i on,
     * in a cell for each j and i, filled from the last LAYER back: far less work than to walk
     * through all MATCHES. The cell ROOT takes the first SPAN as its step, the others a BLOCK.
     */
    private static final class Search {
        /** Above any MISFIT: 8 LAYERS, PACE 9, 5 SPANS of 99 years, SQUARE, stay below 200000000. */
        private static final int UNREACHED = 1000000000;
        private static final int COLUMNS = MOST_SPANS + 1;
        private static final int ROOT = (MOST_LAYERS + 1) * COLUMNS;
        private static final int CELLS = ROOT + 1;

        private final Site site;
        private final Judge weigher;
        private final int[][] sums = new int[2][CELLS];
        private final int[][] steps = new int[2][CELLS];
        private final int[][] nextRanks = new int[2][CELLS];
        private final int[] ways = new int[CELLS];
        private final int[] likeWays = new int[CELLS];

        Search(Site site, Judge weigher) {
            this.site = site;
            this.weigher = weigher;
        }

        /** MISFIT of LAYER j with a BLOCK from SPAN i on, or NONE. */
        int cost(Bounds limits, int kind, int j, int i, int length) {
            if (!site.agrees(j, i) || i + length > site.spans.size()) {
                return NONE;
            }
            int thickness = site.layers.at(j);
            int years = site.yearsFrom(i, length);
            if (!limits.allow(thickness, years)) {
                return NONE;
            }
            return weigher.weigh(kind, thickness, years, length / 2);
        }

        void fill(Bounds limits, int kind) {
            forgetAll();
            int last = site.layers.size() - 1;
            if (last < 0) {
                return;
            }
            endBehind(last);
            for (int j = last; j >= 0; j--) {
                for (int i = 0; i < site.spans.size(); i++) {
                    fillCell(limits, kind, j, i);
                }
            }
            for (int i = 0; i < site.spans.size(); i++) {
                join(ROOT, cellOf(0, i), i, 0);
            }
        }

        private void forgetAll() {
            Arrays.fill(sums[0], UNREACHED);
            Arrays.fill(sums[1], UNREACHED);
            Arrays.fill(ways, 0);
            Arrays.fill(likeWays, 0);
        }

        /** Behind the last LAYER nothing is left to lay, wherever that is. */
        private void endBehind(int last) {
            for (int i = 0; i <= site.spans.size(); i++) {
                int cell = cellOf(last + 1, i);
                sums[0][cell] = 0;
                ways[cell] = 1;
                likeWays[cell] = 1;
            }
        }

        private void fillCell(Bounds limits, int kind, int j, int i) {
            for (int length = 1; length <= LONGEST_BLOCK; length += 2) {
                int cost = cost(limits, kind, j, i, length);
                if (cost != NONE) {
                    join(cellOf(j, i), cellOf(j + 1, i + length), length, cost);
                }
            }
        }

        /** The cell may go on to `next`; steps come from the least up, so the first of like ones stays. */
        private void join(int cell, int next, int step, int cost) {
            if (sums[0][next] == UNREACHED) {
                return;
            }
            int sum = cost + sums[0][next];
            ways[cell] += ways[next];
            if (sum < sums[0][cell]) {
                likeWays[cell] = likeWays[next];
            } else if (sum == sums[0][cell]) {
                likeWays[cell] += likeWays[next];
            }
            offer(cell, sum, step, 0);
            if (sums[1][next] != UNREACHED) {
                offer(cell, cost + sums[1][next], step, 1);
            }
        }

        private void offer(int cell, int sum, int step, int nextRank) {
            if (sum < sums[0][cell]) {
                keep(1, cell, sums[0][cell], steps[0][cell], nextRanks[0][cell]);
                keep(0, cell, sum, step, nextRank);
            } else if (sum < sums[1][cell]) {
                keep(1, cell, sum, step, nextRank);
            }
        }

        private void keep(int rank, int cell, int sum, int step, int nextRank) {
            sums[rank][cell] = sum;
            steps[rank][cell] = step;
            nextRanks[rank][cell] = nextRank;
        }

        private static int cellOf(int j, int i) {
            boolean isInside = j >= 0 && j <= MOST_LAYERS && i >= 0 && i <= MOST_SPANS;
            return isInside ? j * COLUMNS + i : ROOT;
        }

        private int sumOrNone(int cell) {
            return sums[0][cell] == UNREACHED ? NONE : sums[0][cell];
        }

        int least() {
            return sumOrNone(ROOT);
        }

        int leastFrom(int i) {
            return sumOrNone(cellOf(0, i));
        }

        int allWays() {
            return ways[ROOT];
        }

        int leastWays() {
            return likeWays[ROOT];
        }

        /** Whether there is a MATCH of that rank; then `match` becomes it. */
        boolean traces(int which, Match match) {
            int rank = which == 0 ? 0 : 1;
            if (sums[rank][ROOT] == UNREACHED) {
                return false;
            }
            int i = steps[rank][ROOT];
            match.startsAt(i, sums[rank][ROOT]);
            rank = nextRanks[rank][ROOT];
            for (int j = 0; j < site.layers.size(); j++) {
                int cell = cellOf(j, i);
                match.blocks.add(steps[rank][cell]);
                i += steps[rank][cell];
                rank = nextRanks[rank][cell];
            }
            return true;
        }
    }

    /** A MATCH and its TIES. */
    private static final class Match {
        private final Site site;
        private final Row blocks = new Row(MOST_LAYERS);
        private int first;
        private int sum;

        Match(Site site) {
            this.site = site;
        }

        void startsAt(int firstSpan, int misfitSum) {
            first = firstSpan;
            sum = misfitSum;
            blocks.dropAll();
        }

        int missed() {
            return (blocks.total() - blocks.size()) / 2;
        }

        int behind() {
            return first + blocks.total();
        }

        int yearsOf(int j) {
            return site.yearsFrom(first + blocks.totalBelow(j), blocks.at(j));
        }

        int topAge() {
            return site.spans.totalBelow(first);
        }

        int bottomAge() {
            return site.spans.totalBelow(behind());
        }

        private int ageAbove(int j) {
            return site.spans.totalBelow(first + blocks.totalBelow(j));
        }

        /** The last LAYER is not looked at: what is in none ahead must be in it. */
        private int layerAtDepth(int d) {
            int j = 0;
            while (j < blocks.size() - 1 && d > site.layers.totalBelow(j + 1)) {
                j++;
            }
            return j;
        }

        private int layerAtAge(int y) {
            int j = 0;
            while (j < blocks.size() - 1 && y > ageAbove(j + 1)) {
                j++;
            }
            return j;
        }

        void tellAge(int d, Fraction answer) {
            int j = layerAtDepth(d);
            int thickness = site.layers.at(j);
            int into = d - site.layers.totalBelow(j);
            answer.becomes(ageAbove(j) * thickness + into * yearsOf(j), thickness);
        }

        void tellDepth(int y, Fraction answer) {
            int j = layerAtAge(y);
            int years = yearsOf(j);
            int into = y - ageAbove(j);
            answer.becomes(site.layers.totalBelow(j) * years + into * site.layers.at(j), years);
        }

        int extremeLayer(boolean fast) {
            int extreme = 0;
            for (int j = 1; j < blocks.size(); j++) {
                if (fast ? isFaster(j, extreme) : isFaster(extreme, j)) {
                    extreme = j;
                }
            }
            return extreme;
        }

        private boolean isFaster(int j, int than) {
            return site.layers.at(j) * yearsOf(than) > site.layers.at(than) * yearsOf(j);
        }
    }

    /** THE FRACTION, always in lowest terms. */
    private static final class Fraction {
        private static final int MOST_STEPS = 64;

        private int above = 0;
        private int below = 1;

        void becomes(int newAbove, int newBelow) {
            int divisor = commonDivisor(newAbove, newBelow);
            if (newBelow > 0 && divisor > 0) {
                above = newAbove / divisor;
                below = newBelow / divisor;
            }
        }

        private static int commonDivisor(int one, int other) {
            int a = one;
            int b = other;
            for (int step = 0; step < MOST_STEPS && b != 0; step++) {
                int left = a % b;
                a = b;
                b = left;
            }
            return a;
        }
    }

    /** Reads THE TEXT; a part that can not stand where it is leaves `place` at its first byte: the FAULT. */
    private static final class Reader {
        private static final int BLANK = 32;

        private final Row bytes;
        private final Site site = new Site();
        private int place;

        Reader(Row bytes) {
            this.bytes = bytes;
        }

        boolean readsAll() {
            place = 0;
            site.spans.dropAll();
            site.layers.dropAll();
            return takesWord("years") && takesNumbers(site.spans)
                && takesWord("core") && takesPointing() && takesNumbers(site.layers)
                && isAtEnd();
        }

        private boolean takesPointing() {
            if (takesWord("north")) {
                site.south = 0;
                return true;
            }
            site.south = 1;
            return takesWord("south");
        }

        private boolean takesWord(String word) {
            skipBlanks();
            int end = endOfLetters();
            if (end - place != word.length()) {
                return false;
            }
            for (int k = 0; k < word.length(); k++) {
                if (bytes.at(place + k) != word.charAt(k)) {
                    return false;
                }
            }
            place = end;
            return true;
        }

        /** 1 at least, as many as the row holds at most, and the ; behind them. */
        private boolean takesNumbers(Row row) {
            for (int k = 0; k <= MOST_SPANS; k++) {
                skipBlanks();
                if (row.size() > 0 && bytes.at(place) == ';') {
                    place++;
                    return true;
                }
                if (!takesNumber(row)) {
                    return false;
                }
            }
            return false;
        }

        private boolean takesNumber(Row row) {
            int end = endOfFigures();
            int figures = end - place;
            if (figures < 1 || figures > 2 || row.isFull()) {
                return false;
            }
            int value = 0;
            for (int k = place; k < end; k++) {
                value = 10 * value + bytes.at(k) - '0';
            }
            if (value == 0) {
                return false;
            }
            row.add(value);
            place = end;
            return true;
        }

        private boolean isAtEnd() {
            skipBlanks();
            return place >= bytes.size();
        }

        private void skipBlanks() {
            while (place < bytes.size() && bytes.at(place) == BLANK) {
                place++;
            }
        }

        private int endOfLetters() {
            int end = place;
            while (end < bytes.size() && isLetter(bytes.at(end))) {
                end++;
            }
            return end;
        }

        private int endOfFigures() {
            int end = place;
            while (end < bytes.size() && bytes.at(end) >= '0' && bytes.at(end) <= '9') {
                end++;
            }
            return end;
        }

        private static boolean isLetter(int c) {
            return c >= 'a' && c <= 'z' || c >= 'A' && c <= 'Z';
        }
    }
}
