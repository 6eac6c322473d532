/** Terms, part 3: each sentence on LIGHTS, drivers and stretches that names an edge. */
public final class DriverEdgesTest {
    private static final String LIGHTS = "Terms, LIGHTS";
    private static final String BELIEVED = "Terms, BELIEVED";
    private static final String RENEWED = "Terms, RENEWED FIRST";
    private static final String WHO = "Terms, WHO DROVE OVER";

    public static void main(String[] args) {
        endZeroFirst();
        redForBoth();
        oneCarAMinute();
        asTheyCame();
        bestGreen();
        plainer();
        halfAsPlain();
        noneBelieved();
        lost();
        burntFirst();
        stretches();
        doNotOverlap();
        leastBeginnings();
        minutesOfWho();
        justThoseDots();
        asLongAsD();
        whileBeingPainted();
        firstOfTwos();
        Due.end("DriverEdgesTest");
    }

    private static int waits(int r, int what, int... cars) {
        WhiteLine x = new WhiteLine();
        Due.feed(x, cars);
        return x.lights(cars.length / 2, r, what);
    }

    private static void endZeroFirst() {
        Due.sentence(LIGHTS, "(end 0 first, from MINUTE 0)");
        for (int g = 1; g <= 20; g++) {
            Due.is("end 0 has green at 0, by " + g, 0, waits(3, 10 + g, 0, 0));
            Due.is("and at " + (g - 1), 0, waits(3, 10 + g, g - 1, 0));
            Due.is("end 1 has none at 0, by " + g, g + 3, waits(3, 10 + g, 0, 1));
        }
    }

    private static void redForBoth() {
        Due.sentence(LIGHTS, "behind each green r MINUTES red for both");
        for (int r = 0; r <= 9; r++) {
            Due.is("end 1 waits for 2 and " + r, 2 + r, waits(r, 12, 0, 1));
            Due.is("end 0, its green just over, waits for all", r + 2 + r, waits(r, 12, 2, 0));
            Due.is("end 1, its green just over", r + 2 + r, waits(r, 12, 2 + r + 2, 1));
            Due.is("end 0 has green again", 0, waits(r, 12, 2 * (2 + r), 0));
        }
    }

    private static void oneCarAMinute() {
        Due.sentence(LIGHTS, "one car of that end that has come (also in that MINUTE) goes in each MINUTE of its green");
        Due.is("in the minute in which it comes", 0, waits(0, 11, 2, 0));
        Due.is("in the last minute of its green", 0, waits(9, 13, 2, 0));
        Due.is("one a minute", 0 + 1 + 2, waits(0, 13, 0, 0, 0, 0, 0, 0));
        Due.is("the fourth in the next round", 0 + 1 + 2 + 6, waits(0, 13, 0, 0, 0, 0, 0, 0, 0, 0));
        Due.is("each end for itself", 0 + 2 + 1 + 3, waits(0, 12, 0, 0, 0, 1, 0, 0, 0, 1));
        Due.is("the latest", 1, waits(0, 11, 255, 0));
    }

    private static void asTheyCame() {
        Due.sentence(LIGHTS, "as they came: MINUTES that all wait together");
        Due.is("none", 0, waits(0, 12, 0, 0, 1, 0));
        Due.is("of two", 4 - 2 + 5 - 3, waits(0, 12, 2, 0, 3, 0));
        Due.is("one that came late waits behind one that came early", 4 - 2 + 5 - 2 + 8 - 4,
                waits(0, 12, 2, 0, 2, 0, 4, 0));
        Due.is("of both ends", 2 - 0 + 3 - 1 + 4 - 2, waits(0, 12, 0, 1, 1, 1, 2, 0));
    }

    private static void bestGreen() {
        Due.sentence(LIGHTS, "the g (1 to 20) by which they are fewest; of like ones the least");
        Due.is("like ones", 1, waits(0, 1, 0, 0));
        Due.is("the most", 20, waits(9, 1, new int[40]));
        Due.is("by it", 190, waits(9, 0, new int[40]));
        Due.is("two at once", 2, waits(9, 1, 0, 0, 0, 0));
        Due.is("g 0", -1, waits(0, 10, 0, 0));
        Due.is("g 21", -1, waits(0, 31, 0, 0));
        int[] onEnd = new int[40];
        for (int k = 0; k < 20; k++) {
            onEnd[2 * k] = k + 1;
        }
        Due.is("by 21 none would wait", 20, waits(0, 1, onEnd));
        Due.is("by 20 the last one does, for 20", 20, waits(0, 0, onEnd));
        // By 1 they wait 9, by 2 15, by 3 4.
        Due.is("not the first that is fewer", 3, waits(1, 1, 0, 0, 1, 1, 2, 0, 5, 1, 5, 1));
    }

    private static void believedBy(WhiteLine x, String law, int due) {
        Due.law(x, law);
        Due.is("believed(0) by " + law, due, x.believed(0, false));
    }

    /** Dots 0 and 1 with an OLD line, dot 0 painted too. */
    private static WhiteLine withBoth() {
        WhiteLine x = Made.painted("d9(1=1)", 0, 1);
        x.old(0, 1, 0);
        return x;
    }

    private static WhiteLine withSpoilt() {
        WhiteLine x = withBoth();
        x.dew(1);
        x.minutes(1);
        Due.is("spoilt", 12, x.dot(0, 6));
        return x;
    }

    private static void plainer() {
        Due.sentence(BELIEVED, "the plainer one (THE LINE, if alike, painted, and not SPOILT");
        WhiteLine x = withBoth();
        believedBy(x, "o9(1=1);l9(1=1)", 2);
        Due.is("alike, not painted: OLD", 1, x.believed(1, false));
        believedBy(x, "o9(1=1);l8(1=1)", 1);
        believedBy(x, "o8(1=1);l9(1=1)", 2);
        believedBy(withSpoilt(), "o9(1=1);l18(1=1)", 1);
    }

    private static void halfAsPlain() {
        Due.sentence(BELIEVED, "a SPOILT one is half as plain, rounded down)");
        WhiteLine x = withSpoilt();
        believedBy(x, "o9(1=1);l19(1=1)", 1);
        believedBy(x, "o9(1=1);l20(1=1)", 2);
        believedBy(x, "o48(1=1);l99(1=1)", 2);
        believedBy(x, "o49(1=1);l99(1=1)", 1);
        believedBy(x, "o0(1=1);l1(1=1)", 0);
        believedBy(x, "o0(1=1);l2(1=1)", 2);
    }

    private static void noneBelieved() {
        Due.sentence(BELIEVED, "0 none (neither is there, or both are 0 plain)");
        WhiteLine x = withBoth();
        Due.law(x, "o9(1=1);l9(1=1)");
        Due.is("neither is there", 0, x.believed(5, false));
        believedBy(x, "o0(1=1);l0(1=1)", 0);
        believedBy(x, "p1(1=1)", 0);
        believedBy(x, "o1(1=1)", 1);
        believedBy(x, "l1(1=1)", 2);
        Due.law(x, "l9(1=1)");
        Due.is("OLD alone, 0 plain", 0, x.believed(1, false));
    }

    private static void lost() {
        Due.sentence("Terms, LOST", "DOTS at which the OLD one is believed and is more than told off THE LINE"
                + " (if that is painted, else off the KERB)");
        WhiteLine x = Made.by(8, "o9(1=1);l5(1=1)");
        Due.kerb(x, "3*8");
        x.party(0, true, 10);
        x.minutes(2);
        x.old(0, 3, 6);
        // Two are 7 off THE LINE, which is at 13, two 3 off the KERB.
        int[][] due = {{0, 4}, {2, 4}, {3, 2}, {6, 2}, {7, 0}, {99, 0}};
        for (int[] one : due) {
            Due.is("lost(" + one[0] + ")", one[1], x.lost(one[0], false));
        }
        Due.law(x, "o9(1=1);l9(1=1)");
        Due.is("where THE LINE is believed none is lost", 2, x.lost(0, false));
        x.old(7, 7, -99);
        Due.kerb(x, "99*8");
        Due.is("198 off is more than 99", 1, x.lost(99, false));
    }

    private static void burntFirst() {
        Due.sentence("Terms, BURNT FIRST", "so that fewest DOTS are LOST then; of like ones the lowest");
        WhiteLine x = Made.by(8, "o9(1=1)");
        Due.kerb(x, "9,0,9,0,0,9,9,0");
        x.old(0, 7, 0);
        int[][] first = {{1, 0, 3}, {2, 5, 2}, {3, 0, 2}, {4, 0, 2}, {5, 2, 1}, {6, 0, 1}, {7, 0, 0}, {8, 0, 0}};
        for (int[] one : first) {
            Due.is("burnFirst(" + one[0] + ", 8, .., 0)", one[1], x.burnFirst(one[0], 8, false, 0));
            Due.is("burnFirst(" + one[0] + ", 8, .., 1)", one[2], x.burnFirst(one[0], 8, false, 1));
        }
        Due.is("none is lost: the lowest of all", 0, x.burnFirst(1, 9, false, 0));
        x.old(0, 6, -100);
        Due.kerb(x, "9*8");
        Due.is("the highest stretch", 7, x.burnFirst(1, 0, false, 0));
        Due.is("the highest stretch of 3: the lowest with it", 5, x.burnFirst(3, 0, false, 0));
    }

    private static void stretches() {
        Due.sentence(RENEWED, "m stretches (1 to 4) of told length (1 to 16)");
        WhiteLine x = Made.road(64);
        Due.wear(x, "1*16,2*16,3*16,4*16");
        Due.is("4 of 16", 160, x.renewed(4, 16, 10));
        Due.is("1 of 1", 4, x.renewed(1, 1, 10));
        Due.is("1 of 16", 64, x.renewed(1, 16, 10));
        Due.is("4 of 1", 16, x.renewed(4, 1, 10));
        int[][] none = {{0, 1}, {5, 1}, {1, 0}, {1, 17}};
        for (int[] one : none) {
            Due.is("renewed(" + one[0] + ", " + one[1] + ", 10)", -1, x.renewed(one[0], one[1], 10));
        }
    }

    private static WhiteLine wear(String row) {
        WhiteLine x = Made.road(8);
        Due.is("wear " + row, true, Due.wear(x, row) >= 0);
        return x;
    }

    private static void doNotOverlap() {
        Due.sentence(RENEWED, "that do not overlap");
        Due.is("two of 2", 27, wear("0,0,9,9,9,0,0,0").renewed(2, 2, 10));
        Due.is("two of 3", 27, wear("0,0,9,9,9,0,0,0").renewed(2, 3, 10));
        Due.is("beside each other is fine", 40, wear("5*8").renewed(2, 4, 10));
    }

    private static void startsAre(String row, int m, int length, int... due) {
        WhiteLine x = wear(row);
        for (int k = 0; k < due.length; k++) {
            Due.is("renewed(" + m + ", " + length + ", " + k + ") by " + row, due[k], x.renewed(m, length, k));
        }
    }

    private static void leastBeginnings() {
        Due.sentence(RENEWED, "of like ones the least row of beginnings");
        startsAre("0*8", 2, 2, 0, 2);
        startsAre("0*8", 4, 2, 0, 2, 4, 6);
        startsAre("0,0,9,9,9,0,0,0", 1, 4, 1);
        startsAre("0,0,9,9,9,0,0,0", 2, 2, 1, 3);
        startsAre("5,1,5,1,5,1,5,1", 3, 1, 0, 2, 4);
    }

    private static void whoIs(WhiteLine x, int twos, int minute, int way) {
        Due.is("twos", twos, x.who(0));
        Due.is("the first's minute", minute, x.who(1));
        Due.is("the first's way", way, x.who(2));
    }

    /** One dot, painted at 1, wet from 1 to d, and a car that comes to it from dot 0 in a minute. */
    private static WhiteLine hit(int d, int when, int minutes) {
        WhiteLine x = Made.painted("d" + d + "(1=1)", 0, 1);
        x.car(0, 0, when);
        x.minutes(minutes - 1);
        return x;
    }

    private static void minutesOfWho() {
        Due.sentence(WHO, "ways and MINUTES (0 to THE MINUTE)");
        // Way 1 is at dot 0 seven minutes later: from 0 on it hits, if d is above 6.
        whoIs(hit(30, 1, 2), 2 + 3, 0, 1);
        whoIs(hit(30, 1, 10), 10 + 11, 0, 1);
        whoIs(hit(3, 1, 2), 2, 1, 0);
        whoIs(hit(3, 1, 3), 3, 1, 0);
        whoIs(hit(3, 1, 9), 3, 1, 0);
        WhiteLine all = Made.by(64, "d1(1=1)");
        all.party(0, true, 0);
        all.car(0, 0, 1);
        all.minutes(65);
        Due.is("all of 64", 64, all.count(3));
        whoIs(all, 1, 1, 0);
    }

    private static void justThoseDots() {
        Due.sentence(WHO, "alone would have driven over just those DOTS, of all that are painted, that are SPOILT by a CAR");
        WhiteLine x = Made.by(8, "d4(1=1)");
        x.party(0, true, 0);
        x.minutes(8);
        x.car(11, 1, 9);
        x.minutes(11);
        Made.rowIs("by a car", x, 6, -2, -2, -2, -2, -2, -2, 11, 11);
        // From the last one, 8 to 11 hit dot 7, 6 to 9 dot 6, 4 to 7 dot 5: 8 and 9 hit just these.
        whoIs(x, 2, 8, 1);
        x.burns(6, 6);
        whoIs(x, 4, 8, 1);
        x.burns(7, 7);
        // None is hit now: of 0 to 19, from dot 0 all but 1 to 4, from the last one all but 0 to 7.
        whoIs(x, 16 + 12, 0, 0);
        WhiteLine y = Made.painted("d4(1=1)", 0, 1);
        y.dew(1);
        y.minutes(9);
        Due.is("by dew", 12, y.dot(0, 6));
        // What dew spoilt no car may have hit: from dot 0 not 1 to 4; way 1 is never in time.
        whoIs(y, 11 - 4 + 11, 0, 0);
    }

    private static void asLongAsD() {
        Due.sentence(WHO, "from the MINUTE at which it was painted on, as long as d told then");
        for (int d = 1; d <= 5; d++) {
            whoIs(hit(d, 1, 9), d, 1, 0);
        }
        WhiteLine x = hit(3, 1, 9);
        Due.law(x, "d99(1=1)");
        whoIs(x, 3, 1, 0);
    }

    private static void whileBeingPainted() {
        Due.sentence(WHO, "while it was being painted is not looked at");
        WhiteLine x = Made.by(8, "p3(1=1);d2(1=1)");
        x.party(0, true, 0);
        x.car(0, 0, 1);
        x.minutes(3);
        x.party(0, false, 0);
        x.minutes(6);
        Due.is("hit as it was being painted", 0, x.dot(0, 6));
        // By 3 and 4 alone, when it was wet.
        whoIs(x, 2, 3, 0);
        WhiteLine y = Made.by(8, "d0(1=1)");
        y.party(0, true, 0);
        y.car(0, 0, 0);
        y.minutes(1);
        Due.is("hit in the minute in which it was painted", 0, y.dot(0, 6));
        whoIs(y, 0, -2, -2);
    }

    private static void firstOfTwos() {
        Due.sentence(WHO, "the first (by MINUTE, then way)");
        // A bare road: each two fits, way 0 of minute 0 is the first.
        whoIs(Made.road(8), 2, 0, 0);
        whoIs(hit(30, 1, 2), 5, 0, 1);
    }
}
