import java.util.LinkedHashMap;
import java.util.Map;

/** Terms, the last lines of part 3: what a refused call changes, and which of several answers is told. */
public final class RefusalEdgesTest {
    /** A call, with true told as 1 and false as 0. */
    private interface Call {
        int on(WhiteLine x);
    }

    private static final int LEAST = Integer.MIN_VALUE;
    private static final int MOST = Integer.MAX_VALUE;

    public static void main(String[] args) {
        none();
        changesNothing();
        questionsChangeNothing();
        noneIsToldFirst();
        inPlaceOfNone();
        Due.end("RefusalEdgesTest");
    }

    private static void none() {
        Due.sentence("Terms", "`NONE = -1`: There is none.");
        Due.is("NONE", -1, WhiteLine.NONE);
        WhiteLine x = Made.road(8);
        Due.is("told as no dew", true, x.dew(WhiteLine.NONE));
        Due.is("answered by a refused call", WhiteLine.NONE, x.minutes(0));
    }

    private static int told(boolean answer) {
        return answer ? 1 : 0;
    }

    /** Busy, with something kept before and a row's text on the tape. */
    private static WhiteLine ready() {
        WhiteLine x = Made.busy();
        x.keep();
        x.minutes(1);
        Due.feed(x, "5*8");
        return x;
    }

    private static void isAsReady(String call, int[] before, WhiteLine x) {
        Made.isAs(call, before, x);
        Due.is(call + ": the bytes of the tape", 40, x.row(2, 3));
        Due.is(call + ": the law", 4 * 2 + 9, x.begins(0, 0));
        Due.is(call + ": the minutes left of what is being painted", 0, x.minutes(1));
        Due.is(call + ": then they are painted", 2, x.minutes(1));
        Due.is(call + ": what was kept", true, x.undo());
        Due.is(call + ": what was kept", 3, x.count(1));
    }

    private static void changesNothing() {
        Due.sentence("Terms", "A call that is refused (NONE, false) changes nothing but the tape, where it is told.");
        for (Map.Entry<String, Call> one : refused().entrySet()) {
            WhiteLine x = ready();
            int[] before = Made.allOf(x);
            int answer = one.getValue().on(x);
            boolean isFalse = one.getKey().startsWith("is");
            Due.is(one.getKey(), isFalse ? 0 : one.getKey().startsWith("check") ? -2 : -1, answer);
            isAsReady(one.getKey(), before, x);
        }
    }

    private static Map<String, Call> refused() {
        Map<String, Call> all = new LinkedHashMap<>();
        all.put("is road(7)", x -> told(x.road(7)));
        all.put("is road(65)", x -> told(x.road(65)));
        all.put("row(3, 3)", x -> x.row(3, 3));
        all.put("row(-1, 3)", x -> x.row(-1, 3));
        all.put("row(0, 0)", x -> x.row(0, 0));
        all.put("row(0, 21)", x -> x.row(0, 21));
        all.put("row(0, 121)", x -> x.row(0, 121));
        all.put("is old(0, 8, 1)", x -> told(x.old(0, 8, 1)));
        all.put("is old(5, 4, 1)", x -> told(x.old(5, 4, 1)));
        all.put("is old(0, 7, 100)", x -> told(x.old(0, 7, 100)));
        all.put("law(0)", x -> x.law(0));
        all.put("law(21)", x -> x.law(21));
        all.put("law(241)", x -> x.law(241));
        all.put("is party(2, false, 0)", x -> told(x.party(2, false, 0)));
        all.put("is party(0, false, 21)", x -> told(x.party(0, false, 21)));
        all.put("is party(1, false, -21)", x -> told(x.party(1, false, -21)));
        all.put("is car(12, 0, 0)", x -> told(x.car(12, 0, 0)));
        all.put("is car(3, 2, 0)", x -> told(x.car(3, 2, 0)));
        all.put("is car(3, 0, 10000)", x -> told(x.car(3, 0, 10000)));
        all.put("is cones(65)", x -> told(x.cones(65)));
        all.put("is dew(10000)", x -> told(x.dew(10000)));
        all.put("is dew(-2)", x -> told(x.dew(-2)));
        all.put("burns(0, 8)", x -> x.burns(0, 8));
        all.put("burns(7, 0)", x -> x.burns(7, 0));
        all.put("minutes(0)", x -> x.minutes(0));
        all.put("minutes(601)", x -> x.minutes(601));
        all.put("tried(601, 0)", x -> x.tried(601, 0));
        all.put("tried(5, 7)", x -> x.tried(5, 7));
        all.put("smooth(10, 100)", x -> x.smooth(10, 100));
        all.put("apart(100, 0)", x -> x.apart(100, 0));
        all.put("seen(8, 0, 1)", x -> x.seen(8, 0, 1));
        all.put("marked(0, 10)", x -> x.marked(0, 10));
        all.put("markings(1, 4, 0)", x -> x.markings(1, 4, 0));
        all.put("joins(100, 0, 1)", x -> x.joins(100, 0, 1));
        all.put("begins(601, 0)", x -> x.begins(601, 0));
        all.put("latest(601)", x -> x.latest(601));
        all.put("dewOdds(601, 0, 3, 0)", x -> x.dewOdds(601, 0, 3, 0));
        all.put("dewOdds(0, 0, 21, 0)", x -> x.dewOdds(0, 0, 21, 0));
        all.put("dewOdds(0, 0, 3, 2)", x -> x.dewOdds(0, 0, 3, 2));
        all.put("meet(0, 601, 0)", x -> x.meet(0, 601, 0));
        all.put("pinned(100, 0)", x -> x.pinned(100, 0));
        all.put("lights(11, 0, 0)", x -> x.lights(11, 0, 0));
        all.put("lights(1, 10, 0)", x -> x.lights(1, 10, 0));
        all.put("lights(1, 0, 2)", x -> x.lights(1, 0, 2));
        all.put("believed(8, true)", x -> x.believed(8, true));
        all.put("lost(100, true)", x -> x.lost(100, true));
        all.put("burnFirst(9, 0, true, 0)", x -> x.burnFirst(9, 0, true, 0));
        all.put("cut(0, 1, 64)", x -> x.cut(0, 1, 64));
        all.put("renewed(5, 1, 10)", x -> x.renewed(5, 1, 10));
        all.put("who(3)", x -> x.who(3));
        all.put("check(9)", x -> x.check(9));
        all.put("check(-1)", x -> x.check(-1));
        all.put("dot(8, 0)", x -> x.dot(8, 0));
        all.put("count(8)", x -> x.count(8));
        all.put("row(least)", x -> x.row(LEAST, LEAST));
        all.put("burns(least, most)", x -> x.burns(LEAST, MOST));
        all.put("minutes(most)", x -> x.minutes(MOST));
        return all;
    }

    /** Answers that are asked for change nothing: the document tells of no change by them. */
    private static void questionsChangeNothing() {
        Due.sentence("Not promised", "Nothing is promised beyond the answers and state changes described above");
        Map<String, Call> all = new LinkedHashMap<>();
        all.put("tried(600, 0)", x -> x.tried(600, 0));
        all.put("smooth(1, 100)", x -> x.smooth(1, 100));
        all.put("apart(1, 0)", x -> x.apart(1, 0));
        all.put("seen(0, 0, 1)", x -> x.seen(0, 0, 1));
        all.put("markings(1, 0, 0)", x -> x.markings(1, 0, 0));
        all.put("begins(600, 0)", x -> x.begins(600, 0));
        all.put("latest(600)", x -> x.latest(600));
        all.put("meet(0, 600, 0)", x -> x.meet(0, 600, 0));
        all.put("pinned(0, 100)", x -> x.pinned(0, 100));
        all.put("lost(0, true)", x -> x.lost(0, true));
        all.put("burnFirst(8, 0, true, 1)", x -> x.burnFirst(8, 0, true, 1));
        all.put("cut(0, 1, 0)", x -> x.cut(0, 1, 0));
        all.put("renewed(2, 3, 10)", x -> x.renewed(2, 3, 10));
        all.put("who(0)", x -> x.who(0));
        for (Map.Entry<String, Call> one : all.entrySet()) {
            WhiteLine x = ready();
            int[] before = Made.allOf(x);
            int answer = one.getValue().on(x);
            Due.is(one.getKey() + " asked again", answer, one.getValue().on(x));
            isAsReady(one.getKey(), before, x);
        }
    }

    private static void isNone(String call, Call asked, int... tape) {
        WhiteLine x = Made.road(8);
        Due.feed(x, tape);
        Due.is(call, -1, asked.on(x));
        Due.is(call + ": the tape stays", (tape.length + 19) / 20 * 20, x.count(7));
    }

    private static void noneIsToldFirst() {
        Due.sentence("Terms", "NONE (or what is told in its place) is told first, then a FAULT, then -2");
        isNone("row(3) of a FAULT", x -> x.row(3, 3), 'x', 'x', 'x');
        isNone("row(0, 21) of a FAULT", x -> x.row(0, 21), 'x', 'x', 'x');
        isNone("row(0, 0) of a FAULT", x -> x.row(0, 0), 'x', 'x', 'x');
        isNone("law(21) of a FAULT", x -> x.law(21), 'x', 'x', 'x');
        isNone("law(0) of a FAULT", x -> x.law(0), 'x', 'x', 'x');
        isNone("tried(0, 4), none paints", x -> x.tried(0, 4));
        isNone("dot(8, 3), no OLD line", x -> x.dot(8, 3));
        isNone("dot(-1, 6), not SPOILT", x -> x.dot(-1, 6));
        isNone("joins(0, 100, 0), never", x -> x.joins(0, 100, 0));
        isNone("joins(-100, 0, 0), never", x -> x.joins(-100, 0, 0));
        isNone("latest(-1), none", x -> x.latest(-1));
        isNone("dewOdds(601, ..), no weight", x -> x.dewOdds(601, 0, 1, 0), 0);
        isNone("dewOdds(.., 10000, ..), no weight", x -> x.dewOdds(0, 10000, 1, 0), 0);
        isNone("dewOdds(.., 21, ..), no weight", x -> x.dewOdds(0, 0, 21, 0), 0);
        isNone("dewOdds(.., 2), no weight", x -> x.dewOdds(0, 0, 1, 2), 0);
        isNone("meet(601, 0, 0), 0 paints none", x -> x.meet(601, 0, 0));
        isNone("meet(600, 0, 3), 0 paints none", x -> x.meet(600, 0, 3));
        isNone("pinned(100, 124), no such place", x -> x.pinned(100, 124));
        isNone("lights(.., 10, 0), no such cars", x -> x.lights(1, 10, 0), 0, 2);
        isNone("lights(.., 2), no such cars", x -> x.lights(1, 0, 2), 0, 2);
        isNone("lights(11, ..), no such cars", x -> x.lights(11, 0, 0), 0, 2);
        isNone("renewed(5, 16, 10), no room", x -> x.renewed(5, 16, 10));
        isNone("renewed(1, 17, 10), no room", x -> x.renewed(1, 17, 10));
        isNone("renewed(4, 16, 4), no room", x -> x.renewed(4, 16, 4));
        isNone("who(3), whoever it was", x -> x.who(3));
    }

    private static void inPlaceOfNone() {
        Due.sentence("Terms", "(or what is told in its place)");
        WhiteLine x = Made.road(8);
        Due.feed(x, 1, 1, 1);
        Due.is("check(9), the first is not so", -2, x.check(9));
        Due.is("check(21), it has not so many", -2, x.check(21));
        Due.is("check(3), the first is not so", 0, x.check(3));
        Due.is("check(1), it has none", -2, x.check(1));
    }
}
