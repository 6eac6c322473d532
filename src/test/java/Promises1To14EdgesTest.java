/** Promises 1 to 14: each sentence that names an edge. */
public final class Promises1To14EdgesTest {
    private static final int LEAST = Integer.MIN_VALUE;
    private static final int MOST = Integer.MAX_VALUE;

    public static void main(String[] args) {
        newObject();
        roadRefused();
        roadInPlace();
        roadIsBare();
        roadLeavesTheRest();
        rowKinds();
        rowBytes();
        rowInPlace();
        rowSum();
        rowFault();
        rowRefused();
        oldLine();
        oldRefused();
        feedBytes();
        feedFull();
        lawBytes();
        lawInPlace();
        lawRefused();
        partyLeaves();
        partyGoesOn();
        partyRefused();
        carInPlace();
        carRefused();
        cones();
        dew();
        dewRefused();
        burnsBeingPainted();
        burnsBare();
        burnsRefused();
        minutesGoBy();
        minutesRefused();
        triedMinutes();
        triedStates();
        triedParties();
        triedRefused();
        dotLines();
        dotMinute();
        dotSpoilt();
        dotWet();
        dotOthers();
        Due.end("Promises1To14EdgesTest");
    }

    private static void newObject() {
        Due.sentence("Promise 1", "16 bare DOTS, no LAW, CARS, DEW.");
        WhiteLine x = new WhiteLine();
        int[] counts = {16, 0, 0, 0, 64, -2, 0, 0, -1, -1, 0, 0};
        for (int what = 0; what < counts.length; what++) {
            Due.is("count(" + what + ")", counts[what], x.count(what));
        }
        for (int i = 0; i < 12; i++) {
            Due.is("car " + i, -1, x.count(30 + i));
            Due.is("car " + i, -1, x.count(50 + i));
        }
        int[] bare = {0, 0, 0, -2, -2, -2, -2, 0, -2};
        for (int i = 0; i < 16; i++) {
            for (int what = 0; what < bare.length; what++) {
                Due.is("dot(" + i + ", " + what + ")", bare[what], x.dot(i, what));
            }
        }
    }

    private static void roadRefused() {
        Due.sentence("Promise 2", "false: no such n.");
        WhiteLine x = Made.busy();
        int[] before = Made.allOf(x);
        for (int n : new int[] {7, 65, 0, -1, -8, 8 + 256, LEAST, MOST}) {
            Due.is("road(" + n + ")", false, x.road(n));
        }
        Made.isAs("refused", before, x);
    }

    private static void roadInPlace() {
        Due.sentence("Promise 2", "A ROAD of n DOTS in place of the one before");
        WhiteLine x = Made.busy();
        for (int n : new int[] {64, 8, 9, 63}) {
            Due.is("road(" + n + ")", true, x.road(n));
            Due.is("DOTS", n, x.count(0));
            Due.is("the last", 0, x.dot(n - 1, 0));
            Due.is("behind it", -1, x.dot(n, 0));
        }
    }

    private static void roadIsBare() {
        Due.sentence("Promise 2", "(all rows 0, bare, no OLD line; PARTIES don't work");
        WhiteLine y = Made.busy();
        Due.is("the same n", true, y.road(8));
        int[] bare = {0, 0, 0, -2, -2, -2, -2, 0, -2};
        for (int i = 0; i < 8; i++) {
            for (int what = 0; what < bare.length; what++) {
                Due.is("dot(" + i + ", " + what + ")", bare[what], y.dot(i, what));
            }
        }
        Due.is("painted", 0, y.count(2));
        Due.is("spoilt", 0, y.count(3));
        Due.is("party 0", 0, y.count(10));
        Due.is("party 1", 0, y.count(11));
        Due.is("none paints", 0, y.minutes(9));
        y.party(0, true, 0);
        Due.is("it begins anew", 0, y.minutes(1));
        Due.is("it begins anew", 1, y.minutes(1));
        WhiteLine z = Made.busy();
        z.road(64);
        z.road(8);
        Due.is("nothing is left behind its end", true, z.road(64));
        Made.rowIs("kerb", z, 0, new int[64]);
    }

    private static void roadLeavesTheRest() {
        Due.sentence("Promise 2", "CARS, CONES, DEW, THE MINUTE as they are)");
        WhiteLine w = Made.busy();
        w.road(20);
        Due.is("way of car 3", 1, w.count(33));
        Due.is("minute of car 3", 2, w.count(53));
        Due.is("car 2", -1, w.count(32));
        Due.is("cones", 7, w.count(4));
        Due.is("dew", 900, w.count(5));
        Due.is("THE MINUTE", 3, w.count(1));
    }

    private static void rowKinds() {
        Due.sentence("Promise 3", "A ROW (0 KERB, 1 HEIGHT, 2 WEAR)");
        WhiteLine x = Made.road(8);
        for (int kind = 0; kind < 3; kind++) {
            Due.is("row(" + kind + ")", 8 * (kind + 5), x.row(kind, Due.feed(x, (kind + 5) + "*8")));
        }
        for (int what = 0; what < 3; what++) {
            Due.is("dot(7, " + what + ")", what + 5, x.dot(7, what));
        }
    }

    private static void rowBytes() {
        Due.sentence("Promise 3", "the first n bytes of the tape (1 to 120; empty then)");
        WhiteLine y = Made.road(8);
        Due.feed(y, "5*8,6*8");
        Due.is("three of 20", 40, y.row(0, 3));
        Due.is("empty then", 0, y.count(7));
        Due.feed(y, "x");
        Due.is("one", -1000, y.row(0, 1));
        Due.is("empty behind a FAULT, too", 0, y.count(7));
        Due.is("empty: it has not so many", -1, y.row(0, 1));
        WhiteLine z = Made.road(64);
        Due.is("120", 406, Due.kerb(z, Made.longestRow()));
    }

    private static void rowInPlace() {
        Due.sentence("Promise 3", "in place of the one before (THE LINE stays)");
        WhiteLine w = Made.road(8);
        Due.kerb(w, "9*8");
        w.party(0, true, 1);
        w.minutes(2);
        Due.kerb(w, "-9*8");
        Made.rowIs("kerb", w, 0, -9, -9, -9);
        Made.rowIs("THE LINE", w, 4, 110, 110, -2);
        Made.rowIs("its minutes", w, 5, 1, 2, -2);
    }

    private static void rowSum() {
        Due.sentence("Promise 3", "the sum of its amounts");
        WhiteLine x = Made.road(8);
        Due.is("of -99 to 99", 99 + 99 + 1 + 1, Due.kerb(x, "-99,99,-1,1,0*4"));
        Due.is("of none", 0, Due.kerb(x, "0*8"));
        Due.is("the most", 64 * 99, Due.kerb(Made.road(64), "-99*64"));
    }

    private static void rowFault() {
        Due.sentence("Promise 3", "a FAULT: -1000 times its number, less its place (the one before stays)");
        WhiteLine x = Made.road(8);
        Due.kerb(x, "1,2,3,4,5,6,7,8");
        Object[][] faults = {{"9,9,x", -1004}, {"9,9*1", -3004}, {"9*7,9*2", -6004}, {"9*7", -1003}, {"x", -1000}};
        for (Object[] one : faults) {
            Due.is("row by " + one[0], (Integer) one[1], Due.kerb(x, (String) one[0]));
            Made.rowIs("the one before", x, 0, 1, 2, 3, 4, 5, 6, 7, 8);
        }
    }

    private static void rowRefused() {
        Due.sentence("Promise 3", "NONE: no such ones, it has not so many (the tape stays)");
        WhiteLine v = Made.road(8);
        Due.feed(v, "5*8");
        int[][] none = {{-1, 3}, {3, 3}, {LEAST, 3}, {MOST, 3}, {0, 0}, {0, -1}, {0, 21}, {0, 121}, {0, LEAST}, {0, MOST}};
        for (int[] one : none) {
            Due.is("row(" + one[0] + ", " + one[1] + ")", -1, v.row(one[0], one[1]));
            Due.is("the tape", 20, v.count(7));
        }
        Due.is("its bytes", 40, v.row(0, 3));
    }

    private static void oldLine() {
        Due.sentence("Promise 4", "The OLD line at DOTS from one to another one (offset -100: none)");
        WhiteLine x = Made.road(8);
        Due.is("all", true, x.old(0, 7, 5));
        Due.is("one", true, x.old(3, 3, -99));
        Due.is("none at the first", true, x.old(0, 1, -100));
        Due.is("none at the last", true, x.old(7, 7, -100));
        Made.rowIs("OLD", x, 3, -2, -2, 105, 1, 105, 105, 105, -2);
        Due.is("none where none is", true, x.old(0, 7, -100));
        Made.rowIs("OLD", x, 3, -2, -2, -2, -2, -2, -2, -2, -2);
    }

    private static void oldRefused() {
        Due.sentence("Promise 4", "true; false: no such ones.");
        WhiteLine x = Made.road(8);
        x.old(0, 7, 5);
        int[][] none = {{-1, 3, 0}, {0, 8, 0}, {3, 2, 0}, {8, 8, 0}, {-1, -1, 0}, {0, 7, 100}, {0, 7, -101},
            {LEAST, 7, 0}, {0, MOST, 0}, {0, 7, LEAST}, {0, 7, MOST}};
        for (int[] one : none) {
            Due.is("old(" + one[0] + ", " + one[1] + ", " + one[2] + ")", false, x.old(one[0], one[1], one[2]));
        }
        Made.rowIs("as it was", x, 3, 105, 105, 105, 105, 105, 105, 105, 105);
    }

    private static void feedBytes() {
        Due.sentence("Promise 5", "Twenty bytes come behind the tape, the highest of each int first");
        WhiteLine x = Made.road(8);
        x.feed(0x312c322c, 0x332c342c, 0x352c362c, 0x372c382c, 0x392c3132);
        x.feed(0x2c31332c, 0, 0, 0, 0);
        Due.is("the ninth", -6016, x.row(2, 24));
        x.feed(0x312c322c, 0x332c342c, 0x352c362c, 0x372c3861, 0);
        Due.is("in their order", 36, x.row(2, 15));
        Made.rowIs("wear", x, 2, 1, 2, 3, 4, 5, 6, 7, 8);
        x.feed(-1, LEAST, MOST, 0x80ff007f, 0);
        Due.is("bytes above 127", 0, x.check(1));
        x.feed(0xff01ff00, 0, 0, 0, 0);
        Due.is("bytes above 127 as weights", 255 + 1 + 255, x.dewOdds(0, 2, 3, 1));
        x.road(32);
        x.feed(0x312a3330, 0x2c322a30, 0x32616161, 0, 0);
        Due.is("a byte of 0x30 is 0", 34, x.row(2, 9));
        x.road(22);
        x.feed(0x312c312c, 0x312c312c, 0x312c312c, 0x312c312c, 0x312c312c);
        x.feed(0x322a3132, 0, 0, 0, 0);
        Due.is("behind those that it has", 10 + 24, x.row(2, 24));
    }

    private static void feedFull() {
        Due.sentence("Promise 5", "how many it has; NONE if that would be more than 260.");
        WhiteLine y = Made.road(8);
        for (int k = 1; k <= 13; k++) {
            Due.is("feed", 20 * k, y.feed(0x352a3861, 0, 0, 0, 0));
        }
        Due.is("more than 260", -1, y.feed(0, 0, 0, 0, 0));
        Due.is("as many as before", 260, y.count(7));
        Due.is("and the same ones", 40, y.row(0, 3));
        Due.is("then there is room", 20, y.feed(0, 0, 0, 0, 0));
    }

    private static void lawBytes() {
        Due.sentence("Promise 6", "THE LAW by the first n bytes of the tape (1 to 240; empty then)");
        WhiteLine x = Made.road(8);
        Due.feed(x, "p2(1=1);d9(1=1)");
        Due.is("7 of 20", 1, x.law(7));
        Due.is("empty then", 0, x.count(7));
        Due.is("by it", 8, x.begins(0, 0));
        Due.feed(x, "x");
        Due.is("one", -1000, x.law(1));
        Due.is("empty behind a FAULT, too", 0, x.count(7));
        Due.is("240", 1, Due.law(x, "d00" + "+1".repeat(116) + "(1=1)"));
    }

    private static void lawInPlace() {
        Due.sentence("Promise 6", "in place of the one before: how many CLAUSES");
        WhiteLine y = Made.by(8, "p9(1=1);d9(1=1)");
        Due.is("one", 1, Due.law(y, "d3(1=1)"));
        Due.is("p of the one before is gone", 4 + 3, y.begins(0, 0));
        Due.is("CLAUSES", 1, y.count(6));
        Due.is("16", 16, Due.law(y, "s1(1=1);".repeat(15) + "s1(1=1)"));
        Due.is("CLAUSES", 16, y.count(6));
        for (int k = 0; k < 5; k++) {
            Due.is("a long one", 1, Due.law(y, "d0" + k + "+1-1".repeat(58) + "(1=1)"));
            Due.is("by it", 4 + k, y.begins(0, 0));
        }
    }

    private static void lawRefused() {
        Due.sentence("Promise 6", "a FAULT; NONE: as above.");
        WhiteLine z = Made.by(8, "p3(1=1);d5(1=1)");
        for (String text : new String[] {"p1", "p1(1=1);x", "p1(1=1);p123456", "p[[[[[[["}) {
            Due.is("law by " + text, true, Due.law(z, text) <= -1000);
            Due.is("the one before stays", 12 + 5, z.begins(0, 0));
            Due.is("CLAUSES", 2, z.count(6));
        }
        Due.feed(z, "p1(1=1)");
        for (int n : new int[] {0, -1, 21, 241, LEAST, MOST}) {
            Due.is("law(" + n + ")", -1, z.law(n));
            Due.is("the tape stays", 20, z.count(7));
            Due.is("the one before stays", 2, z.count(6));
        }
        Due.is("its bytes", 1, z.law(7));
    }

    private static void partyLeaves() {
        Due.sentence("Promise 7", "(told not to, it leaves what it paints as bare as it was, not SPOILT");
        WhiteLine x = Made.by(8, "p3(1=1)");
        x.party(0, true, 0);
        x.party(1, true, 0);
        x.car(2, 0, 1);
        x.car(3, 1, 1);
        x.minutes(2);
        Due.is("being painted and spoilt", 2, x.dot(0, 6));
        Due.is("told not to", true, x.party(0, false, 0));
        int[] bare = {0, 0, 0, -2, -2, -2, -2, 0, -2};
        for (int what = 0; what < bare.length; what++) {
            Due.is("dot(0, " + what + ")", bare[what], x.dot(0, what));
        }
        Due.is("the other one's", 1, x.dot(7, 8));
        Due.is("the other one's", 3, x.dot(7, 6));
        Due.is("the other one ends", 1, x.minutes(1));
        x.party(0, true, 0);
        Due.is("it begins anew", 0, x.minutes(2));
        Due.is("party 1 paints its next", 1, x.dot(6, 8));
        Due.is("party 1 told not to", true, x.party(1, false, 0));
        Due.is("it leaves it", -2, x.dot(6, 8));
        Due.is("told not to again", true, x.party(0, false, 0));
        Due.is("and again", true, x.party(0, false, 0));
    }

    private static void partyGoesOn() {
        Due.sentence("Promise 7", "told to, it goes on with that), with an offset");
        WhiteLine y = Made.by(8, "p3(1=1)");
        y.party(0, true, 1);
        y.minutes(2);
        y.party(0, true, 2);
        Due.is("it paints it still", 0, y.dot(0, 8));
        Due.is("one minute was left", 1, y.minutes(1));
        Due.is("the offset told last", 102, y.dot(0, 4));
        y.party(0, false, -20);
        Due.is("what is painted stays", 102, y.dot(0, 4));
        Due.is("its offset", 80, y.count(20));
    }

    private static void partyRefused() {
        Due.sentence("Promise 7", "with an offset: true; false: no such ones.");
        WhiteLine z = Made.busy();
        int[] before = Made.allOf(z);
        int[][] none = {{-1, 0}, {2, 0}, {LEAST, 0}, {MOST, 0}, {0, 21}, {0, -21}, {1, LEAST}, {1, MOST}};
        for (int[] one : none) {
            Due.is("party(" + one[0] + ", false, " + one[1] + ")", false, z.party(one[0], false, one[1]));
            Due.is("party(" + one[0] + ", true, " + one[1] + ")", false, z.party(one[0], true, one[1]));
        }
        Made.isAs("refused", before, z);
        Due.is("20", true, z.party(0, true, 20));
        Due.is("-20", true, z.party(1, true, -20));
    }

    private static void carInPlace() {
        Due.sentence("Promise 8", "A CAR (in place of the one before)");
        WhiteLine x = Made.painted("d99(1=1)", 0, 8);
        x.car(4, 1, 8);
        x.car(4, 0, 9);
        Due.is("way", 0, x.count(34));
        Due.is("minute", 9, x.count(54));
        x.minutes(1);
        Due.is("the one before does not come", 0, x.count(3));
        x.minutes(1);
        Due.is("this one does", 4, x.dot(0, 6));
        x.car(4, 1, 9999);
        x.minutes(9);
        Due.is("it has gone from its way", 1, x.count(3));
    }

    private static void carRefused() {
        Due.sentence("Promise 8", "true; false: no such ones.");
        WhiteLine x = Made.busy();
        int[] before = Made.allOf(x);
        int[][] none = {{-1, 0, 0}, {12, 0, 0}, {LEAST, 0, 0}, {MOST, 0, 0}, {4, -1, 0}, {4, 2, 0}, {4, LEAST, 0},
            {4, 0, -1}, {4, 0, 10000}, {4, 0, LEAST}, {4, 0, MOST}};
        for (int[] one : none) {
            Due.is("car(" + one[0] + ", " + one[1] + ", " + one[2] + ")", false, x.car(one[0], one[1], one[2]));
        }
        Made.isAs("refused", before, x);
        Due.is("the least", true, x.car(0, 0, 0));
        Due.is("the most", true, x.car(11, 1, 9999));
        Due.is("the most", 9999, x.count(61));
    }

    private static void cones() {
        Due.sentence("Promise 9", "CONES: true; false: no such number.");
        WhiteLine x = Made.road(8);
        x.cones(5);
        for (int n : new int[] {-1, 65, LEAST, MOST}) {
            Due.is("cones(" + n + ")", false, x.cones(n));
            Due.is("as before", 5, x.count(4));
        }
        for (int n : new int[] {0, 1, 63, 64}) {
            Due.is("cones(" + n + ")", true, x.cones(n));
            Due.is("told", n, x.count(4));
        }
    }

    private static void dew() {
        Due.sentence("Promise 10", "DEW in a MINUTE (0 to 9999; NONE: none)");
        WhiteLine x = Made.painted("d99(1=1)", 0, 1);
        for (int minute : new int[] {0, 1, 9998, 9999}) {
            Due.is("dew(" + minute + ")", true, x.dew(minute));
            Due.is("told", minute, x.count(5));
        }
        x.dew(3);
        Due.is("dew(NONE)", true, x.dew(-1));
        Due.is("none", -2, x.count(5));
        x.minutes(9);
        Due.is("none fell", 0, x.count(3));
    }

    private static void dewRefused() {
        Due.sentence("Promise 10", "true; false: no such one.");
        WhiteLine x = Made.road(8);
        x.dew(77);
        for (int minute : new int[] {-2, 10000, LEAST, MOST}) {
            Due.is("dew(" + minute + ")", false, x.dew(minute));
            Due.is("as before", 77, x.count(5));
        }
    }

    private static void burnsBeingPainted() {
        Due.sentence("Promise 11", "(those that are being painted, too: that PARTY paints no more then, but works)");
        WhiteLine x = Made.busy();
        Due.is("being painted", 0, x.dot(1, 8));
        Due.is("none of them is painted", 0, x.burns(1, 1));
        Due.is("no more", -2, x.dot(1, 8));
        Due.is("it works", 1, x.count(10));
        Due.is("the other goes on", 1, x.dot(6, 8));
        Due.is("the other's is painted", 1, x.minutes(1));
        Due.is("it began anew", 0, x.dot(1, 8));
        Due.is("with all its minutes", 1, x.minutes(1));
        WhiteLine other = Made.busy();
        Due.is("party 1's", 0, other.burns(6, 6));
        Due.is("no more", -2, other.dot(6, 8));
        Due.is("it works", 1, other.count(11));
        Due.is("party 0's is painted", 1, other.minutes(1));
        Due.is("party 1 began anew", 1, other.dot(6, 8));
        other.minutes(1);
        Due.is("both at once, of the others two by each party", 4, other.burns(0, 7));
        Made.rowIs("none is being painted", other, 8, -2, -2, -2, -2, -2, -2, -2, -2);
        Due.is("party 0 works", 1, other.count(10));
        Due.is("party 1 works", 1, other.count(11));
    }

    private static void burnsBare() {
        Due.sentence("Promise 11", "DOTS from one to another one are bare");
        WhiteLine y = Made.painted("d9(1=1)", 0, 8);
        y.car(0, 0, 8);
        y.minutes(1);
        Due.is("from 0 on", 3, y.burns(0, 2));
        Due.is("not spoilt", 0, y.count(3));
        Made.rowIs("THE LINE", y, 4, -2, -2, -2, 100, 100, 100, 100, 100);
        Due.is("the last alone", 1, y.burns(7, 7));
        Made.rowIs("its minutes", y, 5, -2, -2, -2, 4, 5, 6, 7, -2);
        Due.is("dry then", 0, y.dot(7, 7));
    }

    private static void burnsRefused() {
        Due.sentence("Promise 11", "how many were painted; NONE: no such ones.");
        WhiteLine x = Made.painted("d9(1=1)", 0, 4);
        Due.is("four of eight", 4, x.burns(0, 7));
        Due.is("none of eight", 0, x.burns(0, 7));
        WhiteLine z = Made.busy();
        int[] before = Made.allOf(z);
        int[][] none = {{-1, 3}, {0, 8}, {3, 2}, {8, 8}, {-1, -1}, {LEAST, 0}, {0, MOST}, {MOST, LEAST}};
        for (int[] one : none) {
            Due.is("burns(" + one[0] + ", " + one[1] + ")", -1, z.burns(one[0], one[1]));
        }
        Made.isAs("refused", before, z);
    }

    private static void minutesGoBy() {
        Due.sentence("Promise 12", "MINUTES (1 to 600) go by (as many as can)");
        WhiteLine x = Made.road(8);
        x.minutes(1);
        Due.is("1", 1, x.count(1));
        x.minutes(600);
        Due.is("601", 601, x.count(1));
        for (int k = 0; k < 15; k++) {
            x.minutes(600);
        }
        Due.is("9601", 9601, x.count(1));
        x.minutes(397);
        x.party(0, true, 0);
        Due.is("one that can", 1, x.minutes(600));
        Due.is("9999", 9999, x.count(1));
        Due.is("none that can", 0, x.minutes(1));
        Due.is("9999", 9999, x.count(1));
    }

    private static void minutesRefused() {
        Due.sentence("Promise 12", "how many DOTS were painted; NONE: no such n.");
        WhiteLine y = Made.by(8, "p3(1=1)");
        y.party(0, true, 0);
        y.party(1, true, 0);
        Due.is("none", 0, y.minutes(2));
        Due.is("two", 2, y.minutes(1));
        int[] before = Made.allOf(y);
        for (int n : new int[] {0, -1, 601, LEAST, MOST}) {
            Due.is("minutes(" + n + ")", -1, y.minutes(n));
        }
        Made.isAs("refused", before, y);
        Due.is("the others", 6, y.minutes(600));
        Due.is("none is left", 0, y.minutes(600));
    }

    private static void triedIs(WhiteLine x, int n, int... due) {
        for (int what = 0; what < due.length; what++) {
            Due.is("tried(" + n + ", " + what + ")", due[what], x.tried(n, what));
        }
    }

    private static void triedMinutes() {
        Due.sentence("Promise 13", "MINUTES (1 to 600; as many as can) that are tried");
        WhiteLine x = Made.by(8, "d3(1=1)");
        x.party(0, true, 5);
        int[] before = Made.allOf(x);
        triedIs(x, 1, 1, 0, 1, 0, -2, -2, 5);
        triedIs(x, 600, 8, 0, 0, 1, -2, -2, 40);
        Made.isAs("tried alone", before, x);
        for (int k = 0; k < 16; k++) {
            x.minutes(600);
        }
        x.burns(0, 7);
        x.minutes(396);
        x.party(0, true, 5);
        triedIs(x, 600, 3, 0, 3, 0, -2, -2, 15);
        x.minutes(3);
        triedIs(x, 600, 3, 0, 3, 0, -2, -2, 15);
    }

    private static void triedStates() {
        Due.sentence("Promise 13", "1 SPOILT, 2 wet, 3 whether all are painted and dry (1, 0)");
        WhiteLine y = Made.by(8, "d3(1=1)");
        y.party(0, true, 0);
        y.car(0, 0, 2);
        int[][] due = {{2, 2, 0, 2, 0}, {3, 3, 1, 3, 0}, {8, 8, 6, 3, 0}, {10, 8, 8, 1, 0}, {11, 8, 8, 0, 1}};
        for (int[] one : due) {
            triedIs(y, one[0], one[1], one[2], one[3], one[4]);
        }
        y.minutes(7);
        y.party(0, false, 0);
        Due.is("dry, not all painted", 0, y.tried(20, 3));
    }

    private static void triedParties() {
        Due.sentence("Promise 13", "4, 5 the DOT that PARTY 0, 1 paints then (-2: none)");
        WhiteLine z = Made.by(8, "p2(1=1)");
        z.party(0, true, 0);
        z.party(1, true, 0);
        int[][] paints = {{1, 0, 7}, {2, -2, -2}, {3, 1, 6}, {7, 3, 4}, {8, -2, -2}, {9, -2, -2}};
        for (int[] one : paints) {
            Due.is("tried(" + one[0] + ", 4)", one[1], z.tried(one[0], 4));
            Due.is("tried(" + one[0] + ", 5)", one[2], z.tried(one[0], 5));
        }
    }

    private static void triedRefused() {
        Due.sentence("Promise 13", "6 how far THE LINE is off the KERB in all then; NONE: no such ones.");
        WhiteLine w = Made.road(8);
        Due.kerb(w, "90,-90,0*6");
        w.party(0, true, 20);
        Due.is("held at 99", 9, w.tried(1, 6));
        Due.is("20 above", 9 + 20, w.tried(2, 6));
        Due.is("all", 9 + 7 * 20, w.tried(8, 6));
        w.minutes(2);
        Due.kerb(w, "99*8");
        Due.is("off the kerb as it is now", 0 + 169 + 0, w.tried(1, 6));
        WhiteLine all = Made.road(64);
        all.party(0, true, 20);
        Due.is("63 of 64", 63 * 20, all.tried(63, 6));
        Due.is("64 of 64", 64 * 20, all.tried(64, 6));
        int[][] none = {{0, 0}, {-1, 0}, {601, 0}, {LEAST, 0}, {MOST, 0}, {1, -1}, {1, 7}, {1, LEAST}, {1, MOST}};
        for (int[] one : none) {
            Due.is("tried(" + one[0] + ", " + one[1] + ")", -1, w.tried(one[0], one[1]));
        }
    }

    private static void dotLines() {
        Due.sentence("Promise 14", "3 OLD (100 more than it is; -2: none), 4 THE LINE (likewise)");
        WhiteLine x = Made.road(8);
        Due.kerb(x, "-99,99,0*6");
        x.party(0, true, 0);
        x.minutes(3);
        x.old(0, 0, -99);
        x.old(1, 1, 99);
        x.old(2, 2, 0);
        Made.rowIs("OLD", x, 3, 1, 199, 100, -2, -2, -2, -2, -2);
        Made.rowIs("THE LINE", x, 4, 1, 199, 100, -2, -2, -2, -2, -2);
    }

    private static void dotMinute() {
        Due.sentence("Promise 14", "5 the MINUTE at which it was painted (-2)");
        WhiteLine x = Made.painted("p1(1=1)", 0, 3);
        Made.rowIs("its minute", x, 5, 1, 2, 3, -2, -2);
        x.burns(1, 1);
        Made.rowIs("burnt", x, 5, 1, -2, 3, -2, -2);
    }

    private static void dotSpoilt() {
        Due.sentence("Promise 14", "6 by what it is SPOILT (a CAR, 12 DEW; -2)");
        WhiteLine y = Made.painted("d9(1=1)", 0, 8);
        y.car(0, 0, 8);
        y.car(11, 1, 8);
        y.dew(9);
        y.minutes(2);
        Made.rowIs("by what", y, 6, 0, 0, 12, 12, 12, 12, 11, 11);
        y.burns(0, 7);
        Made.rowIs("burnt", y, 6, -2, -2, -2, -2, -2, -2, -2, -2);
    }

    private static void dotWet() {
        Due.sentence("Promise 14", "7 whether it is wet (1, 0), 8 by which PARTY it is being painted (-2)");
        WhiteLine z = Made.by(8, "p1(i=0);p3(1=1);d2(1=1)");
        z.party(0, true, 0);
        z.party(1, true, 0);
        z.minutes(2);
        Made.rowIs("wet", z, 7, 1, 0, 0, 0, 0, 0, 0, 0);
        Made.rowIs("being painted", z, 8, -2, 0, -2, -2, -2, -2, -2, 1);
        z.minutes(1);
        Made.rowIs("wet", z, 7, 0, 0, 0, 0, 0, 0, 0, 1);
    }

    private static void dotOthers() {
        Due.sentence("Promise 14", "by which PARTY it is being painted (-2); NONE for others.");
        WhiteLine x = Made.busy();
        int[][] none = {{-1, 0}, {8, 0}, {LEAST, 0}, {MOST, 0}, {0, 9}, {0, -1}, {0, LEAST}, {0, MOST}, {8, 9}, {-1, 8}};
        for (int[] one : none) {
            Due.is("dot(" + one[0] + ", " + one[1] + ")", -1, x.dot(one[0], one[1]));
        }
    }
}
