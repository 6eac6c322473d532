/** Terms, parts 2 and 3: each sentence that names an edge of what is asked. */
public final class QuestionEdgesTest {
    private static final String SMOOTH = "Terms, SMOOTH";
    private static final String APART = "Terms, DOTS APART";
    private static final String SEEN = "Terms, SEEN";
    private static final String BEGIN = "Terms, TO BEGIN";
    private static final String PINNED = "Terms, PINNED";
    private static final String LIGHTS = "Terms, LIGHTS";
    private static final String BELIEVED = "Terms, BELIEVED";
    private static final String WHO = "Terms, WHO DROVE OVER";

    public static void main(String[] args) {
        smooth();
        apart();
        sight();
        plans();
        pinned();
        lights();
        beliefs();
        stretches();
        who();
        kept();
        Due.end("QuestionEdgesTest");
    }

    private static WhiteLine kerb(String row) {
        WhiteLine x = Made.road(8);
        Due.is("kerb " + row, true, Due.kerb(x, row) >= 0);
        return x;
    }

    private static WhiteLine height(String row) {
        WhiteLine x = Made.road(8);
        Due.is("height " + row, true, Due.height(x, row) >= 0);
        return x;
    }

    private static void smoothIs(WhiteLine x, int g, int off, int... due) {
        Due.is("smooth(" + g + ", 100)", off, x.smooth(g, 100));
        for (int i = 0; i < due.length; i++) {
            Due.is("smooth(" + g + ", " + i + ")", due[i] + 100, x.smooth(g, i));
        }
    }

    private static void smooth() {
        Due.sentence(SMOOTH, "offsets of all DOTS (-30 to 30 each)");
        smoothIs(kerb("30*8"), 9, 0, 30, 30, 30, 30, 30, 30, 30, 30);
        smoothIs(kerb("31*8"), 9, 8, 30, 30, 30, 30, 30, 30, 30, 30);
        smoothIs(kerb("-30*8"), 9, 0, -30, -30, -30, -30, -30, -30, -30, -30);
        smoothIs(kerb("-31*8"), 9, 8, -30, -30, -30, -30, -30, -30, -30, -30);
        smoothIs(kerb("99*8"), 0, 8 * 69, 30, 30, 30, 30, 30, 30, 30, 30);
        smoothIs(kerb("-99*8"), 0, 8 * 69, -30, -30, -30, -30, -30, -30, -30, -30);
        Due.sentence(SMOOTH, "no two beside each other are more than g (0 to 9) apart");
        smoothIs(kerb("0*7,9"), 9, 0, 0, 0, 0, 0, 0, 0, 0, 9);
        smoothIs(kerb("0*7,9"), 8, 1, 0, 0, 0, 0, 0, 0, 0, 8);
        smoothIs(kerb("9,0*7"), 8, 1, 8, 0, 0, 0, 0, 0, 0, 0);
        smoothIs(kerb("0*7,10"), 9, 1, 0, 0, 0, 0, 0, 0, 0, 9);
        smoothIs(kerb("0*7,1"), 0, 1, 0, 0, 0, 0, 0, 0, 0, 0);
        Due.is("g 9", 0, kerb("0*8").smooth(9, 100));
        Due.is("g 10", -1, kerb("0*8").smooth(10, 100));
        Due.is("g -1", -1, kerb("0*8").smooth(-1, 100));
        Due.sentence(SMOOTH, "so that they are off the KERB as little as can be together");
        smoothIs(kerb("0*5,7*3"), 0, 21, 0, 0, 0, 0, 0, 0, 0, 0);
        smoothIs(kerb("0*3,7*5"), 0, 21, 7, 7, 7, 7, 7, 7, 7, 7);
        smoothIs(kerb("0,0,0,5,0,0,0,0"), 2, 3, 0, 0, 0, 2, 0, 0, 0, 0);
        smoothIs(kerb("0,0,5,5,5,0,0,0"), 3, 4, 0, 0, 3, 5, 3, 0, 0, 0);
        Due.sentence(SMOOTH, "of like ones the least row");
        smoothIs(kerb("0*4,4*4"), 0, 16, 0, 0, 0, 0, 0, 0, 0, 0);
        smoothIs(kerb("4*4,0*4"), 0, 16, 0, 0, 0, 0, 0, 0, 0, 0);
        smoothIs(kerb("0*4,4*4"), 1, 4, 0, 0, 0, 1, 2, 3, 4, 4);
        smoothIs(kerb("-4*4,4*4"), 0, 32, -4, -4, -4, -4, -4, -4, -4, -4);
        // Falling by 1 a dot from 4 to 0: below or above the step, or both; the least row falls first.
        smoothIs(kerb("4*4,0*4"), 1, 4, 4, 4, 3, 2, 1, 0, 0, 0);
    }

    private static void apartIs(String row, int e, int m, int off) {
        Due.is("apart(" + e + ", 0) by " + row, m, kerb(row).apart(e, 0));
        Due.is("apart(" + e + ", 1) by " + row, off, kerb(row).apart(e, 1));
    }

    private static void apart() {
        Due.sentence(APART, "at DOT 0 and each m-th one, and the last");
        // By 3: dots 0, 3, 6 and 7 are told.
        apartIs("0,1,2,3,2,1,0,9", 0, 3, 0);
        apartIs("0,0,0,0,0,0,0,9", 0, 6, 0);
        apartIs("9,0,0,0,0,0,0,0", 0, 1, 0);
        // By 7 and more dots 0 and 7 alone are told.
        apartIs("0,1,2,3,4,5,6,7", 0, 16, 0);
        Due.sentence(APART, "rounded toward 0)");
        apartIs("0,0,0,-1,-1,-2,-2,-3", 0, 16, 0);
        apartIs("5,5,5,4,4,3,3,2", 0, 16, 0);
        apartIs("0,0,0,1,1,2,2,3", 0, 16, 0);
        apartIs("-5,-5,-5,-4,-4,-3,-3,-2", 0, 16, 0);
        apartIs("-2,-2,-2,-1,-1,0,0,1", 0, 16, 0);
        Due.sentence(APART, "the greatest m (1 to 16)");
        apartIs("0,9,0,9,0,9,0,9", 0, 1, 0);
        // From 0 to 9 in seven the line is at 1, 2, 3, 5, 6, 7.
        apartIs("0,9,0,9,0,9,0,9", 99, 16, 8 + 2 + 6 + 5 + 3 + 7);
        WhiteLine x = Made.road(40);
        Due.kerb(x, "0*20,1*20");
        Due.is("not above 16", 16, x.apart(1, 0));
        Due.is("the greatest, not the first that fits not", 10, x.apart(0, 0));
        WhiteLine y = Made.road(64);
        Due.is("of 64", 16, y.apart(0, 0));
        Due.sentence(APART, "by which no DOT is more than e off its KERB");
        apartIs("0,0,0,0,9,0,0,0", 9, 16, 9);
        apartIs("0,0,0,0,9,0,0,0", 8, 4, 2 + 4 + 6 + 6 + 3);
        apartIs("0,0,0,0,9,0,0,0", 6, 4, 2 + 4 + 6 + 6 + 3);
        // By 2 the line is at 4 at dot 3, and at 9 less 4 at dot 5.
        apartIs("0,0,0,0,9,0,0,0", 5, 2, 4 + 5);
        apartIs("0,0,0,0,9,0,0,0", 4, 1, 0);
        apartIs("0,0,0,0,-9,0,0,0", 8, 4, 2 + 4 + 6 + 6 + 3);
        apartIs("0,99,0*6", 99, 16, 99);
        apartIs("0,99,0*6", 98, 1, 0);
    }

    private static void sight() {
        Due.sentence(SEEN, "with the eye so high above its HEIGHT (1 to 9)");
        WhiteLine x = height("5,5,6,5,5,5,5,5");
        Due.is("1 above 5: at 6", 2, x.seen(0, 0, 1));
        Due.is("2 above 5: over the hump the road is at 5.5", 2, x.seen(0, 0, 2));
        Due.is("3 above 5", 7, x.seen(0, 0, 3));
        Due.is("9 above 5", 7, x.seen(0, 0, 9));
        Due.is("0", -1, x.seen(0, 0, 0));
        Due.is("10", -1, x.seen(0, 0, 10));
        Due.sentence(SEEN, "(way 0 rising, 1 falling)");
        WhiteLine y = height("0,0,0,5,0,0,0,0");
        Due.is("rising", 1, y.seen(2, 0, 1));
        Due.is("falling", 2, y.seen(2, 1, 1));
        Due.is("way 2", -1, y.seen(2, 2, 1));
        Due.is("way -1", -1, y.seen(2, -1, 1));
        Due.is("the last, rising", 0, y.seen(7, 0, 1));
        Due.is("the first, falling", 0, y.seen(0, 1, 1));
        Due.is("the last, falling", 4, y.seen(7, 1, 1));
        Due.is("the first, rising", 3, y.seen(0, 0, 1));
        Due.sentence(SEEN, "till the first one that is hidden");
        Due.is("what is seen behind it does not count", 3, height("0,0,0,5,0,0,99,0").seen(0, 0, 1));
        Due.is("a second hump", 3, height("0,0,0,5,0,20,0,0").seen(0, 0, 1));
        Due.is("none is hidden", 7, height("0*8").seen(0, 0, 1));
        Due.is("by one far from it", 3, height("0,0,0,9,0,0,0,0").seen(0, 0, 9));
        Due.sentence(SEEN, "the straight line from the eye to the HEIGHT of that one is below the HEIGHT of a DOT between");
        // From 3 to 0 at dot 3: at dot 2 it is at 1, no less than the hump.
        Due.is("at it is not below", 7, height("0,0,1,0,0,0,0,0").seen(0, 0, 3));
        // From 3 to 0 at dot 4: at dot 3 it is at 0.75.
        Due.is("a quarter below", 3, height("0,0,0,1,0,0,0,0").seen(0, 0, 3));
        Due.is("from 4 just at it", 7, height("0,0,0,1,0,0,0,0").seen(0, 0, 4));
        Due.is("the next one is never hidden", 1, height("0,99,0,0,0,0,0,0").seen(0, 0, 1));
        Due.is("uphill, ever steeper", 7, height("0,1,4,9,16,25,36,49").seen(0, 0, 1));
        Due.is("over a crest", 1, height("49,48,45,40,33,24,13,0").seen(0, 0, 1));
        Due.sentence(SEEN, "BROKEN for a way at a DOT, if so many as s are SEEN");
        // Seen rising from dot 0: 3.
        markedIs("0,0,0,5,0,0,0,0", 0, new int[] {3, 3, 3, 3, 2});
        Due.sentence(SEEN, "(or all till the end of the road); MARKED");
        // Seen rising from dots 6 and 7: 1 and 0, and these are all.
        markedIs("0,0,0,5,0,0,0,0", 7, new int[] {3, 3, 3, 3, 3, 1, 1});
        markedIs("0,0,0,5,0,0,0,0", 6, new int[] {3, 3, 3, 3, 1, 1});
        markedIs("0*8", 4, new int[] {3, 3, 3, 3, 3, 3, 3, 3, 3});
        Due.sentence(SEEN, "MARKED: whole (0), broken for way 0 alone (1), for way 1 alone (2), for both (3)");
        WhiteLine z = height("0,0,5,0,0,5,0,0");
        Due.law(z, "s3(1=1)");
        int[] due = {2, 2, 3, 0, 0, 3, 1, 1};
        for (int i = 0; i < 8; i++) {
            Due.is("marked(" + i + ", 1)", due[i], z.marked(i, 1));
        }
    }

    /** How a dot is marked by s 0, 1, 2 and so on. */
    private static void markedIs(String row, int dot, int[] due) {
        WhiteLine x = height(row);
        for (int s = 0; s < due.length; s++) {
            Due.law(x, "s" + s + "(1=1)");
            Due.is("marked(" + dot + ", 1) by s " + s, due[s], x.marked(dot, 1));
        }
    }

    private static void plans() {
        Due.sentence("Terms, A JOIN", "from an offset to another one by at most g a DOT: the fewest DOTS that lie between");
        WhiteLine x = Made.road(8);
        int[][] joins = {{5, 5, 0, 0}, {5, 5, 9, 0}, {0, 1, 1, 0}, {0, 2, 1, 1}, {2, 0, 1, 1}, {0, 9, 9, 0}, {0, 10, 9, 1},
            {0, 18, 9, 1}, {0, 19, 9, 2}, {-99, 99, 1, 197}, {99, -99, 9, 21}};
        for (int[] one : joins) {
            Due.is("joins(" + one[0] + ", " + one[1] + ", " + one[2] + ")", one[3], x.joins(one[0], one[1], one[2]));
        }
        Due.sentence(BEGIN, "as if it were bare, from a MINUTE on, without CARS and DEW, with CONES enough");
        WhiteLine y = Made.by(8, "p2(1=1);d3(1=1)");
        y.party(0, true, 0);
        y.minutes(9);
        y.car(0, 0, 5);
        y.dew(6);
        y.cones(0);
        Due.is("bare", 5 + 8 + 3, y.begins(5, 0));
        Due.is("cones", 6, y.begins(5, 1));
        Due.is("the same for latest", 5, y.latest(16));
        y.party(0, false, 0);
        Due.is("both parties, whether they work or not", 16, y.begins(5, 0));
        Due.sentence(BEGIN, "the first MINUTE in which all is dry (end and d of each)");
        Due.is("d 0", 4, Made.by(8, "d0(1=1)").begins(0, 0));
        Due.is("d 1", 5, Made.by(8, "d1(1=1)").begins(0, 0));
        Due.is("of the one that is dry last, not painted last", 1 + 50, Made.by(8, "d50(i=0)").begins(0, 0));
        Due.is("nine dots: the fifth by one party alone", 5, Made.road(9).begins(0, 0));
        Due.sentence(BEGIN, "the latest MINUTE to begin so that this is not above a told one");
        WhiteLine z = Made.by(8, "d3(1=1)");
        Due.is("just not above", 0, z.latest(7));
        Due.is("one less", -2, z.latest(6));
        Due.is("one more", 1, z.latest(8));
        WhiteLine w = Made.by(8, "d40(t<52)");
        Due.is("of two spells the later one", 51, w.latest(55));
        Due.is("of the earlier one", 10, w.latest(54));
        Due.sentence(BEGIN, "CONES that are needed: the most DOTS that are being painted or wet in one MINUTE");
        Due.is("two being painted", 2, Made.by(8, "d0(1=1)").begins(0, 1));
        Due.is("two being painted, two wet", 4, Made.by(8, "d1(1=1)").begins(0, 1));
        Due.is("p 2, d 1", 4, Made.by(8, "p2(1=1);d1(1=1)").begins(0, 1));
        Due.is("p 2, d 2", 4, Made.by(8, "p2(1=1);d2(1=1)").begins(0, 1));
        Due.is("p 2, d 3", 6, Made.by(8, "p2(1=1);d3(1=1)").begins(0, 1));
        Due.is("all", 8, Made.by(8, "d99(1=1)").begins(0, 1));
        Due.is("all of 64", 64, Made.by(64, "d99(1=1)").begins(0, 1));
        // In MINUTE 2 dots 0 and 1 are wet, 2 and 7 being painted.
        Due.is("the most are there early", 4, Made.by(8, "d2(i<2);p9(i=2|i>5)").begins(0, 1));
        Due.sentence("Terms, ODDS", "in that MINUTE or ahead of it");
        Due.is("in that minute", 1, odds(z, 7));
        Due.is("ahead of it", 1, odds(z, 8));
        Due.is("behind it", 0, odds(z, 6));
        meet();
    }

    /** What is above the line if dew comes in one minute for sure. */
    private static int odds(WhiteLine x, int minute) {
        Due.feed(x, 1);
        return x.dewOdds(0, minute, 1, 0);
    }

    private static void meet() {
        String place = "Terms, TO MEET";
        Due.sentence(place, "PARTY 0 begins in one MINUTE, PARTY 1 in another one, with their offsets");
        WhiteLine x = Made.road(8);
        int[][] due = {{0, 0, 3}, {1, 0, 3}, {0, 1, 4}, {0, 6, 6}, {0, 7, 7}, {0, 600, 7}, {7, 0, 0}, {8, 0, -2}, {600, 0, -2}};
        for (int[] one : due) {
            Due.is("meet(" + one[0] + ", " + one[1] + ", 0)", one[2], x.meet(one[0], one[1], 0));
        }
        x.party(0, false, 20);
        x.party(1, false, -20);
        Due.is("their offsets", 40, x.meet(0, 0, 2));
        Due.sentence(place, "how far apart THE LINE is there from the next DOT");
        Due.kerb(x, "0,0,0,99,-99,0,0,0");
        Due.is("held, and between 3 and 4", 198, x.meet(0, 0, 2));
        Due.is("between 4 and 5", 79 - 20, x.meet(0, 1, 2));
        Due.is("between 0 and 1", 40, x.meet(7, 0, 2));
        Due.is("between 6 and 7", 40, x.meet(0, 6, 2));
        Due.is("no next one", -2, x.meet(0, 7, 2));
        Due.is("none of party 0's", -2, x.meet(8, 0, 2));
    }

    private static void pinsAre(WhiteLine x, int e, int... pins) {
        Due.is("pinned(" + e + ", 100)", pins.length, x.pinned(e, 100));
        for (int k = 0; k < pins.length; k++) {
            Due.is("pinned(" + e + ", " + k + ")", pins[k], x.pinned(e, k));
        }
    }

    private static void pinned() {
        Due.sentence(PINNED, "PINNED: DOTS, the first and the last among them");
        pinsAre(kerb("0*8"), 0, 0, 7);
        pinsAre(kerb("0*7,9"), 99, 0, 7);
        WhiteLine all = Made.road(64);
        pinsAre(all, 0, 0, 63);
        Due.sentence(PINNED, "(as in DOTS APART), so that no DOT is more than e off");
        pinsAre(kerb("0,0,0,9,0,0,0,0"), 9, 0, 7);
        // With one pin at dot 3 the line is 3 and 6, then 7, 5 and 3 off; with one at dot 2, 9 off at dot 3.
        pinsAre(kerb("0,0,0,9,0,0,0,0"), 8, 0, 3, 7);
        pinsAre(kerb("0,0,0,9,0,0,0,0"), 7, 0, 3, 7);
        pinsAre(kerb("0,0,0,9,0,0,0,0"), 6, 0, 3, 4, 7);
        pinsAre(kerb("0,0,0,-9,0,0,0,0"), 7, 0, 3, 7);
        pinsAre(kerb("0,9,0,9,0,9,0,9"), 0, 0, 1, 2, 3, 4, 5, 6, 7);
        Due.sentence(PINNED, "the fewest; of like ones the least row");
        // By 3 a pin at dot 1 does as well as one at dot 6.
        pinsAre(kerb("0,4,4,4,4,4,4,0"), 3, 0, 1, 7);
        pinsAre(kerb("0,4,4,4,4,4,4,0"), 0, 0, 1, 6, 7);
        pinsAre(kerb("0,2,4,6,6,4,2,0"), 0, 0, 3, 4, 7);
    }

    private static int waits(int r, int what, int... cars) {
        WhiteLine x = new WhiteLine();
        Due.feed(x, cars);
        return x.lights(cars.length / 2, r, what);
    }

    private static void lights() {
        Due.sentence(LIGHTS, "(end 0 first, from MINUTE 0)");
        for (int g = 1; g <= 20; g++) {
            Due.is("end 0 has green at 0, by " + g, 0, waits(3, 10 + g, 0, 0));
            Due.is("and at " + (g - 1), 0, waits(3, 10 + g, g - 1, 0));
            Due.is("end 1 has none at 0, by " + g, g + 3, waits(3, 10 + g, 0, 1));
        }
        Due.sentence(LIGHTS, "behind each green r MINUTES red for both");
        for (int r = 0; r <= 9; r++) {
            Due.is("end 1 waits for 2 and " + r, 2 + r, waits(r, 12, 0, 1));
            Due.is("end 0, its green just over, waits for all", r + 2 + r, waits(r, 12, 2, 0));
            Due.is("end 1, its green just over", r + 2 + r, waits(r, 12, 2 + r + 2, 1));
            Due.is("end 0 has green again", 0, waits(r, 12, 2 * (2 + r), 0));
        }
        Due.sentence(LIGHTS, "one car of that end that has come (also in that MINUTE) goes in each MINUTE of its green");
        Due.is("in the minute in which it comes", 0, waits(0, 11, 2, 0));
        Due.is("in the last minute of its green", 0, waits(9, 13, 2, 0));
        Due.is("one a minute", 0 + 1 + 2, waits(0, 13, 0, 0, 0, 0, 0, 0));
        Due.is("the fourth in the next round", 0 + 1 + 2 + 6, waits(0, 13, 0, 0, 0, 0, 0, 0, 0, 0));
        Due.is("each end for itself", 0 + 2 + 1 + 3, waits(0, 12, 0, 0, 0, 1, 0, 0, 0, 1));
        Due.is("the latest", 1, waits(0, 11, 255, 0));
        Due.sentence(LIGHTS, "the g (1 to 20) by which they are fewest; of like ones the least");
        Due.is("like ones", 1, waits(0, 1, 0, 0));
        Due.is("the most", 20, waits(9, 1, new int[40]));
        Due.is("by it", 190, waits(9, 0, new int[40]));
        Due.is("two at once", 2, waits(9, 1, 0, 0, 0, 0));
        Due.is("g 0", -1, waits(0, 10, 0, 0));
        Due.is("g 21", -1, waits(0, 31, 0, 0));
        // By 1 and by 2 end 1 waits for 1 and 2, by 3 the second of end 0 waits no more.
        Due.is("not the first that is fewer", 3, waits(1, 1, 0, 0, 1, 1, 2, 0, 5, 1, 5, 1));
    }

    private static void beliefs() {
        Due.sentence(BELIEVED, "the plainer one (THE LINE, if alike, painted, and not SPOILT");
        WhiteLine x = Made.painted("p1(1=1)", 0, 1);
        x.old(0, 1, 0);
        believedBy(x, "o9(1=1);l9(1=1)", 2);
        believedBy(x, "o9(1=1);l8(1=1)", 1);
        believedBy(x, "o8(1=1);l9(1=1)", 2);
        Due.law(x, "o9(1=1);l9(1=1)");
        Due.is("not painted: OLD", 1, x.believed(1, false));
        WhiteLine y = Made.painted("d9(1=1)", 0, 1);
        y.old(0, 0, 0);
        y.dew(1);
        y.minutes(1);
        Due.is("spoilt", 12, y.dot(0, 6));
        believedBy(y, "o9(1=1);l18(1=1)", 1);
        Due.sentence(BELIEVED, "a SPOILT one is half as plain, rounded down)");
        believedBy(y, "o9(1=1);l19(1=1)", 1);
        believedBy(y, "o9(1=1);l20(1=1)", 2);
        believedBy(y, "o48(1=1);l99(1=1)", 2);
        believedBy(y, "o49(1=1);l99(1=1)", 1);
        believedBy(y, "o0(1=1);l1(1=1)", 0);
        believedBy(y, "o0(1=1);l2(1=1)", 2);
        Due.sentence(BELIEVED, "0 none (neither is there, or both are 0 plain)");
        Due.law(x, "o9(1=1);l9(1=1)");
        Due.is("neither is there", 0, x.believed(5, false));
        believedBy(x, "o0(1=1);l0(1=1)", 0);
        believedBy(x, "p1(1=1)", 0);
        believedBy(x, "o1(1=1)", 1);
        believedBy(x, "l1(1=1)", 2);
        Due.law(x, "l9(1=1)");
        Due.is("OLD alone, 0 plain", 0, x.believed(1, false));
        lost();
    }

    private static void believedBy(WhiteLine x, String law, int due) {
        Due.law(x, law);
        Due.is("believed(0) by " + law, due, x.believed(0, false));
    }

    private static void lost() {
        String place = "Terms, LOST";
        Due.sentence(place, "DOTS at which the OLD one is believed and is more than told off THE LINE (if that is painted, else off the KERB)");
        WhiteLine x = Made.by(8, "o9(1=1);l5(1=1)");
        Due.kerb(x, "3*8");
        x.party(0, true, 10);
        x.minutes(2);
        x.old(0, 3, 6);
        // Two are 7 off THE LINE, which is at 13, two 3 off the KERB.
        int[][] due = {{0, 4}, {2, 4}, {3, 2}, {6, 2}, {7, 0}, {99, 0}};
        for (int[] one : due) {
            Due.is("lost(" + one[0] + ")", one[1], x.lost(one[0], false));
        }
        Due.law(x, "o9(1=1);l9(1=1)");
        Due.is("where THE LINE is believed none is lost", 2, x.lost(0, false));
        x.old(7, 7, -99);
        Due.kerb(x, "99*8");
        Due.is("198 off is more than 99", 1, x.lost(99, false));
        Due.sentence("Terms, BURNT FIRST", "so that fewest DOTS are LOST then; of like ones the lowest");
        WhiteLine y = Made.by(8, "o9(1=1)");
        Due.kerb(y, "9,0,9,0,0,9,9,0");
        y.old(0, 7, 0);
        int[][] first = {{1, 0, 3}, {2, 5, 2}, {3, 0, 2}, {4, 0, 2}, {5, 2, 1}, {6, 0, 1}, {7, 0, 0}, {8, 0, 0}};
        for (int[] one : first) {
            Due.is("burnFirst(" + one[0] + ", 8, .., 0)", one[1], y.burnFirst(one[0], 8, false, 0));
            Due.is("burnFirst(" + one[0] + ", 8, .., 1)", one[2], y.burnFirst(one[0], 8, false, 1));
        }
        Due.is("none is lost: the lowest of all", 0, y.burnFirst(1, 9, false, 0));
        y.old(0, 6, -100);
        Due.kerb(y, "9*8");
        Due.is("the highest stretch", 7, y.burnFirst(1, 0, false, 0));
        Due.is("the highest stretch of 3: the lowest with it", 5, y.burnFirst(3, 0, false, 0));
    }

    private static void stretches() {
        Due.sentence("Terms, CUT", "DOTS that are whole for a way, at which a bold driver sees enough all the same");
        // Seen rising: 3 2 1 4 3 2 1 0, the last five of them all there is.
        WhiteLine x = height("0,0,0,5,0,0,0,0");
        Due.law(x, "s9(1=1)");
        int[] due = {3, 3, 2, 1, 0};
        for (int enough = 0; enough < due.length; enough++) {
            Due.is("cut(0, 1, " + enough + ")", due[enough], x.cut(0, 1, enough));
        }
        Due.law(x, "s2(1=1)");
        Due.is("broken ones are not cut", 1, x.cut(0, 1, 0));
        Due.sentence("Terms, CUT", "(told DOTS on end, or all till the end of the road)");
        Due.law(x, "s9(1=1)");
        Due.is("so many just do", 1, x.cut(0, 1, 3));
        Due.is("one more does not", 0, x.cut(0, 1, 4));
        Due.is("who sees all till the end is at a broken line", 0, height("0*8").cut(0, 1, 0));
        Due.is("63", 0, x.cut(1, 1, 63));
        String place = "Terms, RENEWED FIRST";
        Due.sentence(place, "m stretches (1 to 4) of told length (1 to 16)");
        WhiteLine y = Made.road(64);
        Due.wear(y, "1*16,2*16,3*16,4*16");
        Due.is("4 of 16", 160, y.renewed(4, 16, 10));
        Due.is("1 of 1", 4, y.renewed(1, 1, 10));
        Due.is("1 of 16", 64, y.renewed(1, 16, 10));
        Due.is("4 of 1", 16, y.renewed(4, 1, 10));
        int[][] none = {{0, 1}, {5, 1}, {1, 0}, {1, 17}};
        for (int[] one : none) {
            Due.is("renewed(" + one[0] + ", " + one[1] + ", 10)", -1, y.renewed(one[0], one[1], 10));
        }
        Due.sentence(place, "that do not overlap");
        WhiteLine z = Made.road(8);
        Due.wear(z, "0,0,9,9,9,0,0,0");
        Due.is("two of 2", 27, z.renewed(2, 2, 10));
        Due.is("two of 3", 27, z.renewed(2, 3, 10));
        Due.is("beside each other is fine", 40, renewedWear(z, "5*8", 2, 4));
        Due.sentence(place, "of like ones the least row of beginnings");
        Due.wear(z, "0*8");
        startsAre(z, 2, 2, 0, 2);
        startsAre(z, 4, 2, 0, 2, 4, 6);
        Due.wear(z, "0,0,9,9,9,0,0,0");
        startsAre(z, 1, 4, 1);
        startsAre(z, 2, 2, 1, 3);
        Due.wear(z, "5,1,5,1,5,1,5,1");
        startsAre(z, 3, 1, 0, 2, 4);
    }

    private static int renewedWear(WhiteLine x, String row, int m, int length) {
        Due.wear(x, row);
        return x.renewed(m, length, 10);
    }

    private static void startsAre(WhiteLine x, int m, int length, int... due) {
        for (int k = 0; k < due.length; k++) {
            Due.is("renewed(" + m + ", " + length + ", " + k + ")", due[k], x.renewed(m, length, k));
        }
    }

    private static void whoIs(WhiteLine x, int twos, int minute, int way) {
        Due.is("twos", twos, x.who(0));
        Due.is("the first's minute", minute, x.who(1));
        Due.is("the first's way", way, x.who(2));
    }

    /** One dot, painted at 1, wet from 1 to d, and a car that comes to it from dot 0 in a minute. */
    private static WhiteLine hit(int d, int when, int minutes) {
        WhiteLine x = Made.painted("d" + d + "(1=1)", 0, 1);
        x.car(0, 0, when);
        x.minutes(minutes - 1);
        return x;
    }

    private static void who() {
        Due.sentence(WHO, "ways and MINUTES (0 to THE MINUTE)");
        // Way 1 is at dot 0 seven minutes later: from 0 on it hits, if d is above 6.
        whoIs(hit(30, 1, 2), 2 + 3, 0, 1);
        whoIs(hit(30, 1, 10), 10 + 11, 0, 1);
        whoIs(hit(3, 1, 2), 2, 1, 0);
        whoIs(hit(3, 1, 3), 3, 1, 0);
        whoIs(hit(3, 1, 9), 3, 1, 0);
        Due.sentence(WHO, "alone would have driven over just those DOTS, of all that are painted, that are SPOILT by a CAR");
        WhiteLine x = Made.by(8, "d4(1=1)");
        x.party(0, true, 0);
        x.minutes(8);
        x.car(11, 1, 9);
        x.minutes(11);
        Made.rowIs("by a car", x, 6, -2, -2, -2, -2, -2, -2, 11, 11);
        // From the last one, 8 to 11 hit dot 7, 6 to 9 dot 6, 4 to 7 dot 5: 8 and 9 hit just these.
        whoIs(x, 2, 8, 1);
        x.burns(6, 6);
        whoIs(x, 4, 8, 1);
        x.burns(7, 7);
        // None is hit now: of 0 to 19, from dot 0 all but 1 to 4, from the last one all but 0 to 7.
        whoIs(x, 16 + 12, 0, 0);
        WhiteLine y = Made.painted("d4(1=1)", 0, 1);
        y.dew(1);
        y.minutes(9);
        Due.is("by dew", 12, y.dot(0, 6));
        // What dew spoilt no car may have hit: from dot 0 not 1 to 4; way 1 is never in time.
        whoIs(y, 11 - 4 + 11, 0, 0);
        Due.sentence(WHO, "from the MINUTE at which it was painted on, as long as d told then");
        for (int d = 1; d <= 5; d++) {
            whoIs(hit(d, 1, 9), d, 1, 0);
        }
        WhiteLine z = hit(3, 1, 9);
        Due.law(z, "d99(1=1)");
        whoIs(z, 3, 1, 0);
        Due.sentence(WHO, "while it was being painted is not looked at");
        WhiteLine w = Made.by(8, "p3(1=1);d2(1=1)");
        w.party(0, true, 0);
        w.car(0, 0, 1);
        w.minutes(3);
        w.party(0, false, 0);
        w.minutes(6);
        Due.is("hit as it was being painted", 0, w.dot(0, 6));
        // By 3 and 4 alone, when it was wet.
        whoIs(w, 2, 3, 0);
        WhiteLine v = Made.by(8, "d0(1=1)");
        v.party(0, true, 0);
        v.car(0, 0, 0);
        v.minutes(1);
        Due.is("hit in the minute in which it was painted", 0, v.dot(0, 6));
        whoIs(v, 0, -2, -2);
        Due.sentence(WHO, "the first (by MINUTE, then way)");
        // A bare road: each two fits, way 0 of minute 0 is the first.
        whoIs(Made.road(8), 2, 0, 0);
        whoIs(hit(30, 1, 2), 5, 0, 1);
    }

    private static void kept() {
        Due.sentence("Terms, KEPT", "KEPT: DOTS, rows, OLD line, THE LINE, PARTIES, CARS, CONES, DEW, THE MINUTE");
        WhiteLine x = Made.busy();
        int[] before = Made.allOf(x);
        x.keep();
        x.road(20);
        x.old(0, 19, 9);
        x.party(0, false, 1);
        x.party(1, true, 1);
        x.car(3, 0, 7);
        x.car(4, 0, 8);
        x.cones(1);
        x.dew(-1);
        x.minutes(30);
        x.undo();
        Made.isAs("undone", before, x);
        Due.is("what was being painted goes on", 2, x.minutes(1));
        Due.sentence("Terms, KEPT", "UNDONE: as they were KEPT last");
        WhiteLine y = Made.road(8);
        y.party(0, true, 0);
        y.keep();
        y.minutes(2);
        y.keep();
        y.minutes(3);
        y.undo();
        Due.is("kept last", 2, y.count(2));
        y.minutes(4);
        y.undo();
        Due.is("undone again", 2, y.count(2));
        Due.sentence("Terms, CHECK", "offsets of THE LINE and 100 (not painted: 0): right, or the first that is not so");
        WhiteLine z = kerb("-99,99,0*6");
        z.party(0, true, 0);
        z.minutes(3);
        Due.is("right", -1, z.check(Due.feed(z, 1, 199, 100, 0, 0, 0, 0, 0)));
        Due.is("the first of two", 1, z.check(Due.feed(z, 1, 198, 101, 0)));
        Due.is("not painted, told at 0 inches", 3, z.check(Due.feed(z, 1, 199, 100, 100)));
        Due.is("painted, told as not", 2, z.check(Due.feed(z, 1, 199, 0, 0)));
        Due.is("the last", 7, z.check(Due.feed(z, 1, 199, 100, 0, 0, 0, 0, 255)));
        Due.sentence("Terms", "All memory is the road's own.");
        WhiteLine one = Made.busy();
        WhiteLine other = Made.busy();
        int[] as = Made.allOf(other);
        one.keep();
        one.burns(0, 7);
        one.minutes(50);
        one.road(9);
        Due.law(one, "p9(1=1)");
        Made.isAs("another one's calls", as, other);
        Due.is("nor is anything kept of it", false, other.undo());
        Due.is("nor its law", 2 * 4 + 9, other.begins(0, 0));
    }
}
