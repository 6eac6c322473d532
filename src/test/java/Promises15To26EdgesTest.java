/** Promises 15 to 26: each sentence that names an edge. */
public final class Promises15To26EdgesTest {
    private static final int LEAST = Integer.MIN_VALUE;
    private static final int MOST = Integer.MAX_VALUE;

    public static void main(String[] args) {
        smoothWhat();
        smoothRefused();
        apartWhat();
        apartRefused();
        seen();
        marked();
        markings();
        markingsRefused();
        joins();
        beginsWhat();
        beginsLast();
        beginsRefused();
        latest();
        oddsMinute();
        oddsWeights();
        oddsWithoutDivisor();
        oddsOfNothing();
        oddsRefused();
        meetDot();
        meetEnd();
        meetApart();
        meetRefused();
        pinnedWhat();
        pinnedNoPlace();
        pinnedRefused();
        lightsCars();
        lightsWhat();
        lightsNoSuchCars();
        lightsRefused();
        Due.end("Promises15To26EdgesTest");
    }

    private static void smoothWhat() {
        Due.sentence("Promise 15", "what 100 how far off in all, else the offset at DOT what (100 more than it is)");
        WhiteLine x = Made.road(8);
        Due.kerb(x, "-99,30*6,99");
        Due.is("how far off", 111 + 9 + 69, x.smooth(9, 100));
        int[] due = {112, 121, 130, 130, 130, 130, 130, 130};
        for (int i = 0; i < 8; i++) {
            Due.is("smooth(9, " + i + ")", due[i], x.smooth(9, i));
        }
        WhiteLine y = Made.road(64);
        Due.kerb(y, "0*63,9");
        Due.is("the last of 64", 109, y.smooth(9, 63));
    }

    private static void smoothRefused() {
        Due.sentence("Promise 15", "(100 more than it is); NONE: no such ones.");
        WhiteLine x = Made.road(8);
        WhiteLine y = Made.road(64);
        Due.kerb(y, "0*63,9");
        int[][] none = {{-1, 100}, {10, 100}, {LEAST, 100}, {MOST, 100}, {0, -1}, {0, 8}, {0, 63}, {0, 99}, {0, 101},
            {0, LEAST}, {0, MOST}, {10, 8}};
        for (int[] one : none) {
            Due.is("smooth(" + one[0] + ", " + one[1] + ")", -1, x.smooth(one[0], one[1]));
        }
        Due.is("64 of 64", -1, y.smooth(0, 64));
        Due.is("g 0", 9, y.smooth(0, 100));
        Due.is("g 9", 0, y.smooth(9, 100));
    }

    private static void apartWhat() {
        Due.sentence("Promise 16", "DOTS APART by e (0 to 99), what 0 m, 1 how far off in all by it");
        WhiteLine x = Made.road(8);
        Due.kerb(x, "0,99,0*6");
        Due.is("apart(99, 0)", 16, x.apart(99, 0));
        Due.is("apart(99, 1)", 99, x.apart(99, 1));
        Due.is("apart(0, 0)", 1, x.apart(0, 0));
        Due.is("apart(0, 1)", 0, x.apart(0, 1));
    }

    private static void apartRefused() {
        Due.sentence("Promise 16", "1 how far off in all by it; NONE: no such ones.");
        WhiteLine x = Made.road(8);
        int[][] none = {{-1, 0}, {100, 0}, {LEAST, 0}, {MOST, 0}, {0, -1}, {0, 2}, {0, LEAST}, {0, MOST}};
        for (int[] one : none) {
            Due.is("apart(" + one[0] + ", " + one[1] + ")", -1, x.apart(one[0], one[1]));
        }
    }

    private static void seen() {
        Due.sentence("Promise 17", "SEEN from a DOT one way by an eye; NONE: no such ones.");
        WhiteLine x = Made.road(64);
        Due.is("the most", 63, x.seen(0, 0, 1));
        Due.is("the most", 63, x.seen(63, 1, 9));
        Due.is("none ahead", 0, x.seen(63, 0, 9));
        Due.is("none ahead", 0, x.seen(0, 1, 1));
        int[][] none = {{-1, 0, 1}, {64, 0, 1}, {LEAST, 0, 1}, {MOST, 0, 1}, {0, -1, 1}, {0, 2, 1}, {0, LEAST, 1},
            {0, 0, 0}, {0, 0, 10}, {0, 0, LEAST}, {0, 0, MOST}};
        for (int[] one : none) {
            Due.is("seen(" + one[0] + ", " + one[1] + ", " + one[2] + ")", -1, x.seen(one[0], one[1], one[2]));
        }
        x.road(8);
        Due.is("seen(8, 0, 1) of 8", -1, x.seen(8, 0, 1));
    }

    private static void marked() {
        Due.sentence("Promise 18", "MARKED at a DOT by an eye (0 to 3); NONE: no such ones.");
        WhiteLine x = Made.by(8, "s3(1=1)");
        Due.height(x, "0,0,5,0,0,5,0,0");
        int[] due = {2, 2, 3, 0, 0, 3, 1, 1};
        for (int i = 0; i < 8; i++) {
            Due.is("marked(" + i + ", 1)", due[i], x.marked(i, 1));
        }
        Due.is("marked(3, 9)", 0, x.marked(3, 9));
        Due.height(x, "0,0,1,0,0,1,0,0");
        Due.is("marked(3, 1)", 0, x.marked(3, 1));
        Due.is("marked(3, 9), over the humps", 3, x.marked(3, 9));
        int[][] none = {{-1, 1}, {8, 1}, {LEAST, 1}, {MOST, 1}, {0, 0}, {0, 10}, {0, LEAST}, {0, MOST}};
        for (int[] one : none) {
            Due.is("marked(" + one[0] + ", " + one[1] + ")", -1, x.marked(one[0], one[1]));
        }
    }

    private static void markings() {
        Due.sentence("Promise 19", "How many DOTS by an eye are MARKED so (0 to 3), what 0; the longest such stretch (1)");
        WhiteLine x = Made.by(8, "s3(1=1)");
        Due.height(x, "0,0,5,0,0,5,0,0");
        int[] all = {2, 2, 2, 2};
        int[] longest = {2, 2, 2, 1};
        for (int so = 0; so < 4; so++) {
            Due.is("markings(1, " + so + ", 0)", all[so], x.markings(1, so, 0));
            Due.is("markings(1, " + so + ", 1)", longest[so], x.markings(1, so, 1));
        }
        Due.height(x, "0*8");
        Due.is("all", 8, x.markings(1, 3, 0));
        Due.is("all on end", 8, x.markings(9, 3, 1));
        Due.is("none", 0, x.markings(1, 0, 0));
        Due.is("none", 0, x.markings(1, 0, 1));
    }

    private static void markingsRefused() {
        Due.sentence("Promise 19", "the longest such stretch (1); NONE: no such ones.");
        WhiteLine x = Made.road(8);
        int[][] none = {{0, 0, 0}, {10, 0, 0}, {LEAST, 0, 0}, {MOST, 0, 0}, {1, -1, 0}, {1, 4, 0}, {1, LEAST, 0},
            {1, 0, -1}, {1, 0, 2}, {1, 0, LEAST}, {1, 0, MOST}};
        for (int[] one : none) {
            Due.is("markings(" + one[0] + ", " + one[1] + ", " + one[2] + ")", -1,
                    x.markings(one[0], one[1], one[2]));
        }
    }

    private static void joins() {
        Due.sentence("Promise 20", "A JOIN (offsets -99 to 99, g 0 to 9): DOTS; -2: never; NONE: no such ones.");
        WhiteLine x = Made.road(8);
        int[][] due = {{-99, 99, 9, 21}, {99, -99, 9, 21}, {-99, 99, 1, 197}, {0, 0, 0, 0}, {99, 99, 0, 0}, {0, 1, 0, -2},
            {-99, 99, 0, -2}, {1, 0, 0, -2}, {0, 1, 1, 0}, {100, 0, 1, -1}, {-100, 0, 1, -1}, {0, 100, 1, -1},
            {0, -100, 1, -1}, {0, 1, -1, -1}, {0, 1, 10, -1}, {LEAST, 0, 1, -1}, {0, MOST, 1, -1}, {0, 0, LEAST, -1},
            {LEAST, LEAST, 0, -1}, {100, 100, 0, -1}};
        for (int[] one : due) {
            Due.is("joins(" + one[0] + ", " + one[1] + ", " + one[2] + ")", one[3], x.joins(one[0], one[1], one[2]));
        }
    }

    private static void beginsWhat() {
        Due.sentence("Promise 21", "TO BEGIN at a MINUTE (0 to 600), what 0 when all is dry, 1 CONES that are needed");
        WhiteLine x = Made.by(8, "d3(1=1)");
        Due.is("begins(0, 0)", 7, x.begins(0, 0));
        Due.is("begins(600, 0)", 607, x.begins(600, 0));
        Due.is("begins(0, 1)", 8, x.begins(0, 1));
        WhiteLine slow = Made.by(64, "p9(1=1);d99(1=1)");
        Due.is("the latest", 600 + 32 * 9 + 99, slow.begins(600, 0));
    }

    private static void beginsLast() {
        Due.sentence("Promise 21", "2 the DOT that is painted last (of both in one MINUTE the one of PARTY 1)");
        WhiteLine x = Made.by(8, "d3(1=1)");
        Due.is("of both in one minute", 4, x.begins(0, 2));
        Due.is("of nine, by party 0 alone", 4, Made.road(9).begins(0, 2));
        Due.is("the slow one of party 0", 0, Made.by(8, "p9(i=0)").begins(0, 2));
        Due.is("the slow one of party 1", 7, Made.by(8, "p9(i=7)").begins(0, 2));
        Due.is("both slow ones end in one minute", 4, Made.by(8, "p9(i=3|i=4)").begins(0, 2));
    }

    private static void beginsRefused() {
        Due.sentence("Promise 21", "the one of PARTY 1); NONE: no such ones.");
        WhiteLine x = Made.road(8);
        int[][] none = {{-1, 0}, {601, 0}, {LEAST, 0}, {MOST, 0}, {0, -1}, {0, 3}, {0, LEAST}, {0, MOST}};
        for (int[] one : none) {
            Due.is("begins(" + one[0] + ", " + one[1] + ")", -1, x.begins(one[0], one[1]));
        }
    }

    private static void latest() {
        Due.sentence("Promise 22", "The latest MINUTE to begin (by a MINUTE 0 to 600); -2: none; NONE: no such one.");
        WhiteLine x = Made.by(8, "d3(1=1)");
        int[][] due = {{0, -2}, {6, -2}, {7, 0}, {8, 1}, {600, 593}, {-1, -1}, {601, -1}, {LEAST, -1}, {MOST, -1}};
        for (int[] one : due) {
            Due.is("latest(" + one[0] + ")", one[1], x.latest(one[0]));
        }
        Due.law(x, "d3+0*t(1=1)");
        for (int[] one : due) {
            Due.is("by a law with t: latest(" + one[0] + ")", one[1], x.latest(one[0]));
        }
        WhiteLine y = Made.by(64, "p9(1=1);d99(1=1)");
        Due.is("386: none", -2, y.latest(386));
        Due.is("387: at once", 0, y.latest(387));
        WhiteLine z = Made.by(8, "p9(t>0);d99(t>4)");
        // Begun at 0, ends are at 1, 10, 19, 28; begun later, nine behind each other.
        int[][] byMinutes = {{126, -2}, {127, 0}, {135, 0}, {136, 1}, {600, 600 - 135}};
        for (int[] one : byMinutes) {
            Due.is("by minutes: latest(" + one[0] + ")", one[1], z.latest(one[0]));
        }
    }

    /** A road that, begun at 0, is dry at 7. */
    private static WhiteLine dryAt7() {
        return Made.by(8, "d3(1=1)");
    }

    private static void oddsAre(WhiteLine x, int minute, int from, int above, int below, int... weights) {
        String call = "dewOdds(" + minute + ", " + from + ", " + weights.length;
        Due.feed(x, weights);
        Due.is(call + ", 0)", above, x.dewOdds(minute, from, weights.length, 0));
        Due.is("empty then", 0, x.count(7));
        Due.feed(x, weights);
        Due.is(call + ", 1)", below, x.dewOdds(minute, from, weights.length, 1));
    }

    private static void oddsMinute() {
        Due.sentence("Promise 23", "begun in a MINUTE (0 to 600), by the first n bytes of the tape");
        WhiteLine x = dryAt7();
        oddsAre(x, 0, 7, 1, 1, 5);
        oddsAre(x, 600, 607, 1, 1, 5);
        oddsAre(x, 600, 606, 0, 1, 5);
        Due.feed(x, 0, 3, 9);
        Due.is("the first two", 1, x.dewOdds(0, 7, 2, 0));
    }

    private static void oddsWeights() {
        Due.sentence("Promise 23", "(weights for MINUTES from, from + 1 .., from 0 to 9999; n 1 to 40; empty then)");
        WhiteLine x = dryAt7();
        oddsAre(x, 0, 0, 1, 8, 1, 1, 1, 1, 1, 1, 1, 1);
        oddsAre(x, 0, 6, 3, 4, 1, 3);
        oddsAre(x, 0, 9999, 1, 1, 1, 1);
        oddsAre(x, 0, 0, 0, 1, 1);
        int[] forty = new int[40];
        java.util.Arrays.fill(forty, 255);
        oddsAre(x, 0, 0, 33, 40, forty);
        forty[39] = 0;
        oddsAre(x, 0, 0, 32, 39, forty);
    }

    private static void oddsWithoutDivisor() {
        Due.sentence("Promise 23", "what 0 above, 1 below the line, without a common divisor");
        WhiteLine x = dryAt7();
        oddsAre(x, 0, 6, 1, 2, 255, 255);
        oddsAre(x, 0, 6, 0, 1, 200, 0);
        oddsAre(x, 0, 6, 1, 1, 0, 200);
        oddsAre(x, 0, 6, 5, 7, 100, 250);
        oddsAre(x, 0, 6, 255, 256, 1, 255);
    }

    private static void oddsOfNothing() {
        Due.sentence("Promise 23", "-2: no weight above 0");
        WhiteLine x = dryAt7();
        for (int n = 1; n <= 2; n++) {
            Due.feed(x, 0, 0, 7);
            Due.is("zeros, above", -2, x.dewOdds(0, 7, n, 0));
            Due.is("empty then", 0, x.count(7));
            Due.feed(x, 0, 0, 7);
            Due.is("zeros, below", -2, x.dewOdds(0, 7, n, 1));
        }
    }

    private static void oddsRefused() {
        Due.sentence("Promise 23", "-2: no weight above 0; NONE: no such ones, it has not so many (the tape stays).");
        WhiteLine x = Made.road(8);
        Due.is("it has none", -1, x.dewOdds(0, 0, 1, 0));
        Due.feed(x, 5, 5, 5);
        int[][] none = {{-1, 0, 1, 0}, {601, 0, 1, 0}, {LEAST, 0, 1, 0}, {MOST, 0, 1, 0}, {0, -1, 1, 0}, {0, 10000, 1, 0},
            {0, LEAST, 1, 0}, {0, MOST, 1, 0}, {0, 0, 0, 0}, {0, 0, -1, 0}, {0, 0, 21, 0}, {0, 0, 41, 0}, {0, 0, MOST, 0},
            {0, 0, 1, -1}, {0, 0, 1, 2}, {0, 0, 1, MOST}};
        for (int[] c : none) {
            Due.is("dewOdds(" + c[0] + ", " + c[1] + ", " + c[2] + ", " + c[3] + ")", -1,
                    x.dewOdds(c[0], c[1], c[2], c[3]));
            Due.is("the tape stays", 20, x.count(7));
        }
        Due.is("its bytes", 3, x.dewOdds(0, 2, 3, 1));
        for (int k = 0; k < 3; k++) {
            x.feed(-1, -1, -1, -1, -1);
        }
        Due.is("41 of 60", -1, x.dewOdds(0, 0, 41, 0));
        Due.is("40 of 60", 9, x.dewOdds(0, 0, 40, 0));
    }

    private static void meetDot() {
        Due.sentence("Promise 24", "TO MEET by MINUTES (0 to 600 each), what 0 the DOT (-2: 0 paints none)");
        WhiteLine x = Made.road(8);
        int[][] due = {{0, 0, 3}, {600, 600, 3}, {0, 600, 7}, {600, 0, -2}, {7, 0, 0}, {8, 0, -2}};
        for (int[] one : due) {
            Due.is("meet(" + one[0] + ", " + one[1] + ", 0)", one[2], x.meet(one[0], one[1], 0));
        }
    }

    private static void meetEnd() {
        Due.sentence("Promise 24", "1 the MINUTE at which the last one is painted (its end)");
        WhiteLine x = Made.road(8);
        int[][] ends = {{0, 0, 4}, {600, 600, 604}, {0, 600, 8}, {600, 0, 8}, {0, 1, 5}, {7, 0, 8}};
        for (int[] one : ends) {
            Due.is("meet(" + one[0] + ", " + one[1] + ", 1)", one[2], x.meet(one[0], one[1], 1));
        }
        Due.is("of a slow one", 9, Made.by(8, "p9(i=0)").meet(0, 0, 1));
    }

    private static void meetApart() {
        Due.sentence("Promise 24", "2 how far apart (-2: one of both paints all)");
        WhiteLine x = Made.road(8);
        x.party(0, false, 4);
        Due.is("both", 4, x.meet(0, 0, 2));
        Due.is("0 paints all but one", 4, x.meet(0, 6, 2));
        Due.is("0 paints all", -2, x.meet(0, 7, 2));
        Due.is("1 paints all but one", 4, x.meet(7, 0, 2));
        Due.is("1 paints all", -2, x.meet(8, 0, 2));
    }

    private static void meetRefused() {
        Due.sentence("Promise 24", "(-2: one of both paints all); NONE: no such ones.");
        WhiteLine x = Made.road(8);
        int[][] none = {{-1, 0, 0}, {601, 0, 0}, {LEAST, 0, 0}, {MOST, 0, 0}, {0, -1, 0}, {0, 601, 0}, {0, LEAST, 0},
            {0, MOST, 0}, {0, 0, -1}, {0, 0, 3}, {0, 0, LEAST}, {0, 0, MOST}, {600, 0, 3}};
        for (int[] one : none) {
            Due.is("meet(" + one[0] + ", " + one[1] + ", " + one[2] + ")", -1, x.meet(one[0], one[1], one[2]));
        }
    }

    private static void pinnedWhat() {
        Due.sentence("Promise 25", "PINNED by e (0 to 99), what 100 how many, 101 how far off in all, else the DOT at place what");
        WhiteLine x = Made.road(8);
        Due.kerb(x, "0,99,0*6");
        pinnedIs(x, 99, 99, 0, 7);
        // From 99 to 0 in six: 16, 33, 49, 66, 82 less.
        pinnedIs(x, 98, 83 + 66 + 50 + 33 + 17, 0, 1, 7);
        pinnedIs(x, 0, 0, 0, 1, 2, 7);
        WhiteLine y = Made.road(64);
        Due.kerb(y, "0,9,0*2,9*2,0*3,9*3,0*4,9*4,0*5,9*5,0*6,9*6,0*7,9*7,0*8");
        Due.is("the last place of many", 63, y.pinned(0, y.pinned(0, 100) - 1));
    }

    private static void pinnedNoPlace() {
        Due.sentence("Promise 25", "-2: no such place");
        WhiteLine x = Made.road(8);
        Due.kerb(x, "0,99,0*6");
        for (int what : new int[] {-1, -2, 4, 8, 63, 64, 99, 102, 124, LEAST, MOST}) {
            Due.is("pinned(0, " + what + ")", -2, x.pinned(0, what));
        }
        Due.is("pinned(0, 3)", 7, x.pinned(0, 3));
        Due.is("pinned(99, 2)", -2, x.pinned(99, 2));
    }

    private static void pinnedRefused() {
        Due.sentence("Promise 25", "-2: no such place; NONE: no such ones.");
        WhiteLine x = Made.road(8);
        for (int e : new int[] {-1, 100, LEAST, MOST}) {
            for (int what : new int[] {0, 100, 101, -1, 124}) {
                Due.is("pinned(" + e + ", " + what + ")", -1, x.pinned(e, what));
            }
        }
    }

    private static void pinnedIs(WhiteLine x, int e, int off, int... pins) {
        Due.is("pinned(" + e + ", 100)", pins.length, x.pinned(e, 100));
        Due.is("pinned(" + e + ", 101)", off, x.pinned(e, 101));
        for (int k = 0; k < pins.length; k++) {
            Due.is("pinned(" + e + ", " + k + ")", pins[k], x.pinned(e, k));
        }
    }

    private static int lights(int r, int what, int... cars) {
        WhiteLine x = new WhiteLine();
        Due.feed(x, cars);
        int answer = x.lights(cars.length / 2, r, what);
        Due.is("the tape", answer == -1 ? (cars.length + 19) / 20 * 20 : 0, x.count(7));
        return answer;
    }

    private static void lightsCars() {
        Due.sentence("Promise 26", "(a MINUTE 0 to 255, an end 0, 1; n 1 to 20; MINUTES not falling; empty then)");
        Due.is("0", 0, lights(0, 11, 0, 0));
        Due.is("255", 0, lights(0, 11, 255, 1));
        // By 20 and 9 end 0 has green from 232 to 251, and from 290 on.
        Due.is("255 and not 127", 35, lights(9, 30, 255, 0));
        Due.is("one", 1, lights(0, 11, 0, 1));
        Due.is("twenty", 190, lights(0, 30, new int[40]));
        Due.is("MINUTES alike: at 5 and at 8", 3, lights(0, 12, 5, 0, 5, 0));
        Due.is("MINUTES rising", 0, lights(0, 11, 4, 0, 5, 1));
        WhiteLine x = new WhiteLine();
        Due.feed(x, 0, 0, 0, 0, 0, 7);
        Due.is("the first 2 n bytes alone", 1, x.lights(2, 0, 12));
    }

    private static void lightsWhat() {
        Due.sentence("Promise 26", "by r (0 to 9), what 0 MINUTES by the best g, 1 that g, 10 + g MINUTES by g (1 to 20)");
        Due.is("r 0", 2, lights(0, 12, 0, 1));
        Due.is("r 9", 11, lights(9, 12, 0, 1));
        Due.is("by the best g", 1, lights(0, 0, 0, 1));
        Due.is("that g", 1, lights(0, 1, 0, 1));
        for (int g = 1; g <= 20; g++) {
            Due.is("10 + " + g, g, lights(0, 10 + g, 0, 1));
        }
    }

    private static void lightsNoSuchCars() {
        Due.sentence("Promise 26", "-2: no such cars");
        int[][] wrong = {{0, 2}, {0, 255}, {0, 128}, {5, 0, 4, 0}, {0, 0, 0, 2}, {255, 1, 0, 1}};
        for (int[] cars : wrong) {
            for (int what : new int[] {0, 1, 11, 30}) {
                Due.is("lights by " + java.util.Arrays.toString(cars), -2, lights(0, what, cars));
            }
        }
        int[] last = new int[40];
        last[39] = 2;
        Due.is("the last of twenty", -2, lights(0, 0, last));
    }

    private static void lightsRefused() {
        Due.sentence("Promise 26", "-2: no such cars; NONE: no such ones, it has not so many (the tape stays).");
        for (int what : new int[] {-1, 2, 9, 10, 31, LEAST, MOST}) {
            Due.is("lights(1, 0, " + what + ")", -1, lights(0, what, 0, 0));
        }
        for (int r : new int[] {-1, 10, LEAST, MOST}) {
            Due.is("lights(1, " + r + ", 0)", -1, lights(r, 0, 0, 0));
        }
        WhiteLine x = new WhiteLine();
        Due.is("it has none", -1, x.lights(1, 0, 0));
        Due.feed(x, 0, 0);
        for (int n : new int[] {0, -1, 11, 20, 21, 1 << 30, 1 << 31, (1 << 31) + 1, LEAST, MOST}) {
            Due.is("lights(" + n + ", 0, 0)", -1, x.lights(n, 0, 0));
            Due.is("the tape stays", 20, x.count(7));
        }
        Due.is("its bytes", 0, x.lights(1, 0, 0));
        for (int k = 0; k < 3; k++) {
            x.feed(0, 0, 0, 0, 0);
        }
        Due.is("21 of 30", -1, x.lights(21, 0, 0));
        Due.is("20 of 30", 190, x.lights(20, 0, 0));
    }
}
