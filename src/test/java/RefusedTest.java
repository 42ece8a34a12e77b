import java.util.LinkedHashMap;
import java.util.List;
import java.util.Map;

/** Which calls are refused, in which order, how they count, and that nothing else changes: call by call. */
public final class RefusedTest {
    private static final int MIN = Integer.MIN_VALUE, MAX = Integer.MAX_VALUE;
    private static final String OTHER = "years 9;core south 8;";

    private interface Call {
        int on(PoleRecords x);
    }

    private interface State {
        PoleRecords made();
    }

    private static final State NEW = PoleRecords::new;
    private static final State SPANS_ALONE = () -> marked(new int[] {5, 3}, new int[] {});
    private static final State LAYERS_ALONE = () -> marked(new int[] {}, new int[] {5, 3});
    private static final State MATCHED = () -> marked(new int[] {5, 3, 8, 2, 4}, new int[] {5, 13});
    private static final State NO_SECOND = () -> marked(new int[] {5, 3}, new int[] {5, 3});
    private static final State TOO_FEW_SPANS = () -> marked(new int[] {5, 3}, new int[] {5, 3, 1});
    private static final State NOT_ALLOWED = RefusedTest::notAllowed;
    private static final State ALL_FULL = RefusedTest::allFull;
    private static final List<State> STATES = List.of(NEW, SPANS_ALONE, LAYERS_ALONE, MATCHED, NO_SECOND,
        TOO_FEW_SPANS, NOT_ALLOWED, ALL_FULL);
    private static final List<State> WITHOUT_MATCH = List.of(NEW, SPANS_ALONE, LAYERS_ALONE, TOO_FEW_SPANS, NOT_ALLOWED);

    public static void main(String[] args) {
        badInAnyState();
        badThereIsNone();
        badCountsOnce();
        noMatch();
        noLayersToo();
        noSecond();
        full();
        badAheadOfNo();
        badAheadOfFull();
        noneIsNotRefused();
        countsGoOn();
        Due.end();
    }

    /** What a refused call might spoil: a JUDGE, BOUNDS, a FRACTION and a TEXT that are not those at first. */
    private static PoleRecords marked(int[] spans, int[] layers) {
        PoleRecords x = Due.with(new int[] {3}, new int[] {2});
        x.rate(0);
        x.empties(0);
        x.empties(1);
        Due.fill(x, spans, layers);
        x.judge(0, 2);
        x.judge(1, 2);
        x.judge(2, 7);
        x.bound(0, 1, 99);
        x.bound(1, 98, 2);
        Due.types(x, OTHER);
        return x;
    }

    private static PoleRecords notAllowed() {
        PoleRecords x = marked(new int[] {5, 3, 8, 2, 4}, new int[] {5, 13});
        x.bound(0, 90, 1);
        return x;
    }

    private static PoleRecords allFull() {
        PoleRecords x = marked(Due.times(16, 6), Due.times(8, 6));
        Due.types(x, OTHER + " ".repeat(120 - OTHER.length()));
        return x;
    }

    /** In each state the call answers so, counts once, and leaves all else as it was, THE TEXT too. */
    private static void refused(String call, int why, List<State> states, Call refused) {
        for (State state : states) {
            PoleRecords x = state.made();
            String name = call + " in state " + STATES.indexOf(state);
            int bad = x.told(0);
            int no = x.told(1);
            int full = x.told(2);
            long before = Due.withoutCounts(x);
            int read = state.made().reads();
            Due.is(name, refused.on(x), why);
            Due.counts(name, x, bad + (why == Due.BAD ? 1 : 0), no + (why == Due.NO ? 1 : 0),
                full + (why == Due.FULL ? 1 : 0));
            Due.is(name + ", all else", Due.withoutCounts(x), before);
            Due.is(name + ", THE TEXT", x.reads(), read);
        }
    }

    private static Map<String, Call> badCalls() {
        Map<String, Call> calls = new LinkedHashMap<>();
        for (int v : new int[] {MIN, -1, 0, 100, 101, MAX}) {
            calls.put("span(" + v + ")", x -> x.span(v));
            calls.put("layer(" + v + ")", x -> x.layer(v));
        }
        for (int v : new int[] {MIN, -1, 2, MAX}) {
            calls.put("points(" + v + ")", x -> x.points(v));
            calls.put("sets(" + v + ", 0, 1)", x -> x.sets(v, 0, 1));
            calls.put("empties(" + v + ")", x -> x.empties(v));
            calls.put("bound(" + v + ", 1, 1)", x -> x.bound(v, 1, 1));
            calls.put("match(" + v + ", 0)", x -> x.match(v, 0));
            calls.put("block(" + v + ", 0)", x -> x.block(v, 0));
            calls.put("mildest(" + v + ")", x -> x.mildest(v));
            calls.put("fastest(" + v + ")", x -> x.fastest(v));
            calls.put("part(" + v + ")", x -> x.part(v));
        }
        for (int v : new int[] {MIN, -1, 16, 17, MAX}) {
            calls.put("sets(0, " + v + ", 1)", x -> x.sets(0, v, 1));
            calls.put("from(" + v + ")", x -> x.from(v));
            calls.put("misfit(0, " + v + ", 1)", x -> x.misfit(0, v, 1));
        }
        for (int v : new int[] {MIN, -1, 8, 9, MAX}) {
            calls.put("sets(1, " + v + ", 1)", x -> x.sets(1, v, 1));
            calls.put("misfit(" + v + ", 0, 1)", x -> x.misfit(v, 0, 1));
            calls.put("block(0, " + v + ")", x -> x.block(0, v));
            calls.put("block(1, " + v + ")", x -> x.block(1, v));
            calls.put("rate(" + v + ")", x -> x.rate(v));
        }
        addJudgingCalls(calls);
        addNumberCalls(calls);
        return calls;
    }

    private static void addJudgingCalls(Map<String, Call> calls) {
        for (int v : new int[] {MIN, -1, 100, MAX}) {
            calls.put("bound(0, " + v + ", 1)", x -> x.bound(0, v, 1));
            calls.put("bound(1, " + v + ", 1)", x -> x.bound(1, v, 1));
            calls.put("judge(2, " + v + ")", x -> x.judge(2, v));
        }
        for (int v : new int[] {MIN, -1, 0, 100, MAX}) {
            calls.put("sets(0, 0, " + v + ")", x -> x.sets(0, 0, v));
            calls.put("sets(1, 0, " + v + ")", x -> x.sets(1, 0, v));
            calls.put("bound(0, 1, " + v + ")", x -> x.bound(0, 1, v));
            calls.put("bound(1, 1, " + v + ")", x -> x.bound(1, 1, v));
        }
        for (int v : new int[] {MIN, -1, 3, MAX}) {
            calls.put("judge(" + v + ", 1)", x -> x.judge(v, 1));
        }
        for (int v : new int[] {MIN, -1, 4, MAX}) {
            calls.put("judge(0, " + v + ")", x -> x.judge(0, v));
            calls.put("match(0, " + v + ")", x -> x.match(0, v));
            calls.put("match(1, " + v + ")", x -> x.match(1, v));
        }
        for (int v : new int[] {MIN, -1, 0, 10, MAX}) {
            calls.put("judge(1, " + v + ")", x -> x.judge(1, v));
        }
        for (int v : new int[] {MIN, -5, -3, -1, 0, 2, 4, 6, 7, MAX}) {
            calls.put("misfit(0, 0, " + v + ")", x -> x.misfit(0, 0, v));
        }
    }

    private static void addNumberCalls(Map<String, Call> calls) {
        for (int v : new int[] {MIN, -1, 1000000, MAX}) {
            calls.put("draw(" + v + ", 1)", x -> x.draw(v, 1));
        }
        for (int v : new int[] {MIN, -1, 0, 17, MAX}) {
            calls.put("draw(0, " + v + ")", x -> x.draw(0, v));
        }
        for (int v : new int[] {MIN, -1, 793, MAX}) {
            calls.put("age(" + v + ")", x -> x.age(v));
        }
        for (int v : new int[] {MIN, -1, 1585, MAX}) {
            calls.put("depth(" + v + ")", x -> x.depth(v));
        }
        for (int v : new int[] {MIN, -1, 128, MAX}) {
            calls.put("type(" + v + ")", x -> x.type(v));
        }
        for (int v : new int[] {MIN, -1, 10, MAX}) {
            calls.put("told(" + v + ")", x -> x.told(v));
        }
    }

    private static void badInAnyState() {
        Due.says("Refused, changing nothing but how often: BAD -2 a number is not as told");
        for (Map.Entry<String, Call> call : badCalls().entrySet()) {
            refused(call.getKey(), Due.BAD, STATES, call.getValue());
        }
    }

    /** The first number behind those that there are. */
    private static void badThereIsNone() {
        Due.says("BAD: there is none, too; there is no SPAN i; to the bottom of the CORE, else BAD");
        refused("sets, a SPAN", Due.BAD, STATES, x -> x.sets(0, x.told(4), 1));
        refused("sets, a LAYER", Due.BAD, STATES, x -> x.sets(1, x.told(5), 1));
        refused("misfit, a LAYER", Due.BAD, STATES, x -> x.misfit(x.told(5), 0, 1));
        refused("misfit, a SPAN", Due.BAD, STATES, x -> x.misfit(0, x.told(4), 1));
        refused("block", Due.BAD, STATES, x -> x.block(0, x.told(5)));
        refused("SECOND's block", Due.BAD, STATES, x -> x.block(1, x.told(5)));
        refused("from", Due.BAD, STATES, x -> x.from(x.told(4)));
        refused("rate", Due.BAD, STATES, x -> x.rate(x.told(5)));
        refused("age below a CORE of 18", Due.BAD, List.of(MATCHED, NOT_ALLOWED), x -> x.age(19));
        refused("age below a CORE of 48", Due.BAD, List.of(ALL_FULL), x -> x.age(49));
        refused("age below no CORE", Due.BAD, List.of(NEW, SPANS_ALONE), x -> x.age(1));
    }

    private static void badCountsOnce() {
        Due.says("Refused, changing nothing but how often: each call once, however many numbers are not as told");
        refused("sets", Due.BAD, STATES, x -> x.sets(2, -1, 0));
        refused("draw", Due.BAD, STATES, x -> x.draw(-1, 0));
        refused("bound", Due.BAD, STATES, x -> x.bound(2, 100, 0));
        refused("judge", Due.BAD, STATES, x -> x.judge(3, -1));
        refused("misfit", Due.BAD, STATES, x -> x.misfit(-1, -1, 0));
        refused("match", Due.BAD, STATES, x -> x.match(2, 4));
        refused("block", Due.BAD, STATES, x -> x.block(2, -1));
    }

    private static void noMatch() {
        Due.says("NO -3 there is no ALLOWED MATCH");
        for (int which = 0; which < 2; which++) {
            final int one = which;
            for (int what = 0; what < 4; what++) {
                final int asked = what;
                refused("match(" + which + ", " + what + ")", Due.NO, WITHOUT_MATCH, x -> x.match(one, asked));
            }
            List<State> withLayers = List.of(LAYERS_ALONE, TOO_FEW_SPANS, NOT_ALLOWED);
            refused("block(" + which + ", 0)", Due.NO, withLayers, x -> x.block(one, 0));
            refused("block(" + which + ", 1)", Due.NO, withLayers, x -> x.block(one, 1));
            refused("rate(" + which + ")", Due.NO, withLayers, x -> x.rate(one));
            refused("mildest(" + which + ")", Due.NO, WITHOUT_MATCH, x -> x.mildest(one));
            refused("fastest(" + which + ")", Due.NO, WITHOUT_MATCH, x -> x.fastest(one));
        }
        refused("alike()", Due.NO, WITHOUT_MATCH, PoleRecords::alike);
        refused("age(0)", Due.NO, WITHOUT_MATCH, x -> x.age(0));
        refused("age(18), the bottom", Due.NO, List.of(NOT_ALLOWED), x -> x.age(18));
        refused("depth(0)", Due.NO, WITHOUT_MATCH, x -> x.depth(0));
        refused("depth(1584)", Due.NO, WITHOUT_MATCH, x -> x.depth(1584));
    }

    private static void noLayersToo() {
        Due.says("NO -3 .. (no LAYERS, too)");
        List<State> bare = List.of(NEW, SPANS_ALONE);
        refused("match", Due.NO, bare, x -> x.match(0, 0));
        refused("alike", Due.NO, bare, PoleRecords::alike);
        refused("mildest", Due.NO, bare, x -> x.mildest(0));
        refused("age", Due.NO, bare, x -> x.age(0));
        refused("depth", Due.NO, bare, x -> x.depth(0));
        refused("fastest", Due.NO, bare, x -> x.fastest(0));
    }

    private static void noSecond() {
        Due.says("NO -3 .. no SECOND");
        for (int what = 0; what < 4; what++) {
            final int asked = what;
            refused("match(1, " + what + ")", Due.NO, List.of(NO_SECOND), x -> x.match(1, asked));
            Due.isTrue("THE MATCH is there", NO_SECOND.made().match(0, what) >= 0);
            Due.isTrue("a SECOND is there", MATCHED.made().match(1, what) >= 0);
        }
        refused("block(1, 0)", Due.NO, List.of(NO_SECOND), x -> x.block(1, 0));
        refused("block(1, 1)", Due.NO, List.of(NO_SECOND), x -> x.block(1, 1));
    }

    private static void full() {
        Due.says("FULL -4 as many as may be");
        for (int v : new int[] {1, 50, 99}) {
            refused("span(" + v + ")", Due.FULL, List.of(ALL_FULL), x -> x.span(v));
            refused("layer(" + v + ")", Due.FULL, List.of(ALL_FULL), x -> x.layer(v));
        }
        for (int c : new int[] {0, 32, 'x', 127}) {
            refused("type(" + c + ")", Due.FULL, List.of(ALL_FULL), x -> x.type(c));
        }
    }

    private static void badAheadOfNo() {
        Due.says("Refused .. the first of: BAD, NO");
        for (int v : new int[] {-1, 2}) {
            refused("mildest", Due.BAD, WITHOUT_MATCH, x -> x.mildest(v));
            refused("fastest", Due.BAD, WITHOUT_MATCH, x -> x.fastest(v));
            refused("match", Due.BAD, WITHOUT_MATCH, x -> x.match(v, 0));
            refused("block", Due.BAD, WITHOUT_MATCH, x -> x.block(v, 0));
        }
        refused("match", Due.BAD, WITHOUT_MATCH, x -> x.match(0, 4));
        refused("block", Due.BAD, WITHOUT_MATCH, x -> x.block(0, x.told(5)));
        refused("rate", Due.BAD, WITHOUT_MATCH, x -> x.rate(x.told(5)));
        refused("age", Due.BAD, WITHOUT_MATCH, x -> x.age(100));
        refused("depth", Due.BAD, WITHOUT_MATCH, x -> x.depth(1585));
        refused("no SECOND, match", Due.BAD, List.of(NO_SECOND), x -> x.match(1, 4));
        refused("no SECOND, block", Due.BAD, List.of(NO_SECOND), x -> x.block(1, 2));
    }

    private static void badAheadOfFull() {
        Due.says("Refused .. the first of: BAD, .. FULL");
        for (int v : new int[] {0, 100}) {
            refused("span", Due.BAD, List.of(ALL_FULL), x -> x.span(v));
            refused("layer", Due.BAD, List.of(ALL_FULL), x -> x.layer(v));
        }
        for (int c : new int[] {-1, 128}) {
            refused("type", Due.BAD, List.of(ALL_FULL), x -> x.type(c));
        }
    }

    private static void keepsAll(String call, int due, State state, Call asked) {
        PoleRecords x = state.made();
        String name = call + " in state " + STATES.indexOf(state);
        long before = x.digest();
        Due.is(name, asked.on(x), due);
        Due.is(name + " changes nothing", x.digest(), before);
    }

    private static void noneIsNotRefused() {
        Due.says("NONE, no MATCHES and a FAULT are answers, not refused");
        for (State state : WITHOUT_MATCH) {
            keepsAll("many", 0, state, PoleRecords::many);
            keepsAll("begins", 0, state, PoleRecords::begins);
            keepsAll("digest", 1, state, x -> x.digest() == x.digest() ? 1 : 0);
        }
        for (State state : List.of(NEW, SPANS_ALONE, LAYERS_ALONE, TOO_FEW_SPANS)) {
            keepsAll("unbound", Due.NONE, state, PoleRecords::unbound);
        }
        for (State state : List.of(SPANS_ALONE, TOO_FEW_SPANS, NOT_ALLOWED)) {
            keepsAll("from", Due.NONE, state, x -> x.from(0));
        }
        keepsAll("from, which points otherwise", Due.NONE, MATCHED, x -> x.from(1));
        keepsAll("misfit, points otherwise", Due.NONE, MATCHED, x -> x.misfit(0, 1, 1));
        keepsAll("misfit, not ALLOWED", Due.NONE, NOT_ALLOWED, x -> x.misfit(0, 0, 1));
        keepsAll("misfit, not so many SPANS", Due.NONE, MATCHED, x -> x.misfit(0, 4, 3));
        keepsAll("depth, older than the bottom", Due.NONE, MATCHED, x -> x.depth(1584));
        keepsAll("reads, a FAULT", -10, NEW, PoleRecords::reads);
    }

    private static void countsGoOn() {
        Due.says("told: How often refused: BAD (0), NO (1), FULL (2)");
        PoleRecords x = allFull();
        for (int k = 1; k <= 30; k++) {
            x.span(0);
            x.layer(0);
            x.span(1);
            x.layer(1);
            x.type(32);
            x.bound(0, 90, 1);
            x.alike();
            x.bound(0, 0, 1);
        }
        Due.counts("30 times", x, 60, 30, 90);
        x.clear();
        x.empties(0);
        x.empties(1);
        x.draw(5, 5);
        Due.counts("nothing sets them back", x, 60, 30, 90);
    }
}
