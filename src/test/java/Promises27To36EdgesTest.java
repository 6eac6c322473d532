/** Promises 27 to 36: each sentence that names an edge. */
public final class Promises27To36EdgesTest {
    private static final int LEAST = Integer.MIN_VALUE;
    private static final int MOST = Integer.MAX_VALUE;
    /** What is to be told of eight dots at 5 inches, and one byte more. */
    private static final int[] ALL_AT_5 = {105, 105, 105, 105, 105, 105, 105, 105, 9};

    public static void main(String[] args) {
        believed();
        lost();
        burnFirst();
        burnFirstRefused();
        cut();
        renewedWhat();
        renewedNoRoom();
        renewedRefused();
        who();
        whoRefused();
        keep();
        undo();
        checkRight();
        checkWrong();
        checkRefused();
        countPlain();
        countParties();
        countCars();
        countOthers();
        Due.end("Promises27To36EdgesTest");
    }

    private static void believed() {
        Due.sentence("Promise 27", "BELIEVED at a DOT, with rain or not; NONE: no such one.");
        WhiteLine x = Made.painted("o9(r=1);l5(1=1)", 0, 8);
        x.old(0, 7, 0);
        Due.is("the first, rain", 1, x.believed(0, true));
        Due.is("the first, none", 2, x.believed(0, false));
        Due.is("the last, rain", 1, x.believed(7, true));
        for (int i : new int[] {-1, 8, 64, LEAST, MOST}) {
            Due.is("believed(" + i + ", true)", -1, x.believed(i, true));
            Due.is("believed(" + i + ", false)", -1, x.believed(i, false));
        }
    }

    private static void lost() {
        Due.sentence("Promise 28", "LOST by so many inches (0 to 99), with rain or not; NONE: no such number.");
        WhiteLine x = Made.by(8, "o9(r=1)");
        Due.kerb(x, "1,99,-99,0,50*4");
        x.old(0, 2, 0);
        x.old(3, 3, 0);
        x.old(4, 4, -50);
        int[][] due = {{0, 4}, {1, 3}, {98, 3}, {99, 1}, {-1, -1}, {100, -1}, {LEAST, -1}, {MOST, -1}};
        for (int[] one : due) {
            Due.is("lost(" + one[0] + ", true)", one[1], x.lost(one[0], true));
            Due.is("lost(" + one[0] + ", false)", Math.min(0, one[1]), x.lost(one[0], false));
        }
        x.old(0, 7, -100);
        Due.is("no OLD line", 0, x.lost(0, true));
        WhiteLine y = Made.by(64, "o9(1=1)");
        y.old(0, 63, 5);
        Due.is("all of 64", 64, y.lost(4, false));
        Due.is("none of 64", 0, y.lost(5, false));
    }

    private static void burnFirst() {
        Due.sentence("Promise 29", "BURNT FIRST by a length (1 to DOTS) and so many inches (0 to 99)");
        WhiteLine x = Made.by(8, "o9(1=1)");
        Due.kerb(x, "0*5,9,0,99");
        x.old(0, 7, 0);
        int[][] due = {{1, 0, 5, 1}, {2, 0, 4, 1}, {3, 0, 5, 0}, {8, 0, 0, 0}, {1, 98, 7, 0}, {8, 99, 0, 0}, {1, 99, 0, 0}};
        for (int[] one : due) {
            String call = "burnFirst(" + one[0] + ", " + one[1];
            Due.is(call + ", .., 0)", one[2], x.burnFirst(one[0], one[1], false, 0));
            Due.is(call + ", .., 1)", one[3], x.burnFirst(one[0], one[1], false, 1));
        }
        WhiteLine y = Made.by(64, "o9(1=1)");
        y.old(63, 63, 5);
        Due.is("the last of 64", 63, y.burnFirst(1, 0, false, 0));
        Due.is("the last of 64", 0, y.burnFirst(1, 0, false, 1));
        Due.is("64 of 64", 0, y.burnFirst(64, 0, false, 0));
        Due.is("64 of 64", 0, y.burnFirst(64, 0, false, 1));
        Due.is("65 of 64", -1, y.burnFirst(65, 0, false, 1));
        Due.is("nothing is burnt", 2, x.lost(0, false));
    }

    private static void burnFirstRefused() {
        Due.sentence("Promise 29", "1 how many DOTS are LOST then; NONE: no such ones.");
        WhiteLine x = Made.road(8);
        int[][] none = {{0, 0, 0}, {9, 0, 0}, {-1, 0, 0}, {LEAST, 0, 0}, {MOST, 0, 0}, {1, -1, 0}, {1, 100, 0}, {1, LEAST, 0},
            {1, MOST, 0}, {1, 0, -1}, {1, 0, 2}, {1, 0, LEAST}, {1, 0, MOST}};
        for (int[] one : none) {
            Due.is("burnFirst(" + one[0] + ", " + one[1] + ", .., " + one[2] + ")", -1,
                    x.burnFirst(one[0], one[1], true, one[2]));
        }
    }

    private static void cut() {
        Due.sentence("Promise 30", "CUT one way by an eye (1 to 9) and so many DOTS (0 to 63): how many; NONE: no such ones.");
        // Seen rising: 3 2 1 4 3 2 1 0; falling: 0 1 2 3 1 2 3 4.
        WhiteLine x = Made.by(8, "s9(1=1)");
        Due.height(x, "0,0,0,5,0,0,0,0");
        Due.is("rising, 0", 3, x.cut(0, 1, 0));
        Due.is("falling, 0", 4, x.cut(1, 1, 0));
        Due.is("falling, 4", 1, x.cut(1, 1, 4));
        Due.is("falling, 5", 0, x.cut(1, 1, 5));
        Due.is("63", 0, x.cut(0, 1, 63));
        Due.height(x, "0,0,0,1,0,0,0,0");
        Due.is("the lowest eye", 3, x.cut(0, 1, 0));
        Due.is("an eye of 3, behind the hump from dot 0 alone", 1, x.cut(0, 3, 0));
        Due.is("the highest eye", 0, x.cut(0, 9, 0));
        int[][] none = {{-1, 1, 0}, {2, 1, 0}, {LEAST, 1, 0}, {MOST, 1, 0}, {0, 0, 0}, {0, 10, 0}, {0, LEAST, 0}, {0, MOST, 0},
            {0, 1, -1}, {0, 1, 64}, {0, 1, LEAST}, {0, 1, MOST}};
        for (int[] one : none) {
            Due.is("cut(" + one[0] + ", " + one[1] + ", " + one[2] + ")", -1, x.cut(one[0], one[1], one[2]));
        }
    }

    private static void renewedWhat() {
        Due.sentence("Promise 31", "what 10 WEAR in all, else where the stretch at place what begins");
        WhiteLine x = Made.road(8);
        Due.wear(x, "1,9,2,8,3,7,4,6");
        int[] due = {1, 3, 5, 7};
        for (int k = 0; k < 4; k++) {
            Due.is("renewed(4, 1, " + k + ")", due[k], x.renewed(4, 1, k));
        }
        Due.is("renewed(4, 1, 10)", 30, x.renewed(4, 1, 10));
        Due.is("renewed(1, 8, 0)", 0, x.renewed(1, 8, 0));
        Due.is("renewed(1, 8, 10)", 40, x.renewed(1, 8, 10));
        WhiteLine y = Made.road(64);
        Due.wear(y, "0*48,99*16");
        Due.is("the last of 64", 48, y.renewed(1, 16, 0));
        Due.is("4 of 16 of 64", 48, y.renewed(4, 16, 3));
        Due.is("4 of 16 of 64", 99 * 16, y.renewed(4, 16, 10));
    }

    private static void renewedNoRoom() {
        Due.sentence("Promise 31", "-2: they do not lie on the road");
        WhiteLine x = Made.road(8);
        Due.wear(x, "1,9,2,8,3,7,4,6");
        int[][] noRoom = {{1, 9, 0}, {1, 9, 10}, {1, 16, 0}, {2, 5, 1}, {3, 3, 2}, {4, 3, 10}, {4, 16, 3}};
        for (int[] one : noRoom) {
            Due.is("renewed(" + one[0] + ", " + one[1] + ", " + one[2] + ")", -2, x.renewed(one[0], one[1], one[2]));
        }
        Due.is("just on it", 40, x.renewed(2, 4, 10));
        Due.is("just on it", 4, x.renewed(2, 4, 1));
    }

    private static void renewedRefused() {
        Due.sentence("Promise 31", "-2: they do not lie on the road; NONE: no such ones.");
        WhiteLine x = Made.road(8);
        int[][] none = {{0, 1, 10}, {5, 1, 10}, {LEAST, 1, 10}, {MOST, 1, 10}, {1, 0, 10}, {1, 17, 10}, {1, LEAST, 10},
            {1, MOST, 10}, {1, 1, -1}, {1, 1, 1}, {4, 1, 4}, {4, 1, 9}, {4, 1, 11}, {1, 1, LEAST}, {1, 1, MOST}, {1, 16, 1},
            {4, 16, 11}, {4, 16, -1}};
        for (int[] one : none) {
            Due.is("renewed(" + one[0] + ", " + one[1] + ", " + one[2] + ")", -1, x.renewed(one[0], one[1], one[2]));
        }
    }

    private static void who() {
        Due.sentence("Promise 32", "what 0 how many twos, 1, 2 MINUTE and way of the first (-2: none)");
        WhiteLine x = Made.by(8, "d0(1=1)");
        int[] bare = {2, 0, 0};
        for (int what = 0; what < 3; what++) {
            Due.is("bare: who(" + what + ")", bare[what], x.who(what));
        }
        x.party(0, true, 0);
        x.car(0, 0, 0);
        x.minutes(1);
        int[] none = {0, -2, -2};
        for (int what = 0; what < 3; what++) {
            Due.is("none fits: who(" + what + ")", none[what], x.who(what));
        }
        WhiteLine y = Made.painted("d3(1=1)", 1, 2);
        y.car(5, 1, 2);
        y.minutes(4);
        // Dot 7 is wet at 1 to 3, dot 6 at 2 to 4: from the last one 1 to 3 hit both.
        int[] due = {3, 1, 1};
        for (int what = 0; what < 3; what++) {
            Due.is("who(" + what + ")", due[what], y.who(what));
        }
    }

    private static void whoRefused() {
        Due.sentence("Promise 32", "NONE: no such what.");
        WhiteLine x = Made.road(8);
        for (int what : new int[] {-1, 3, LEAST, MOST}) {
            Due.is("who(" + what + ")", -1, x.who(what));
        }
    }

    private static void keep() {
        Due.sentence("Promise 33", "KEPT: how many DOTS are painted.");
        WhiteLine x = Made.by(8, "p2(1=1)");
        Due.is("none", 0, x.keep());
        x.party(0, true, 0);
        x.minutes(3);
        Due.is("one, and one that is being painted", 1, x.keep());
        x.minutes(13);
        Due.is("all", 8, x.keep());
        x.burns(0, 6);
        Due.is("one", 1, x.keep());
        int[] before = Made.allOf(x);
        x.keep();
        Made.isAs("keep() changes nothing", before, x);
    }

    private static void undo() {
        Due.sentence("Promise 34", "UNDONE: true; false: none was KEPT.");
        WhiteLine x = Made.busy();
        int[] before = Made.allOf(x);
        Due.is("none was kept", false, x.undo());
        Made.isAs("refused", before, x);
        x.keep();
        Due.is("kept", true, x.undo());
        Made.isAs("nothing has changed since", before, x);
        WhiteLine z = Made.busy();
        z.keep();
        z.road(12);
        Due.is("undone", true, z.undo());
        Due.is("undone again", true, z.undo());
        Made.isAs("undone", before, z);
        WhiteLine y = new WhiteLine();
        y.keep();
        y.road(64);
        y.undo();
        Due.is("16 dots", 16, y.count(0));
        Due.is("no dot 16", -1, y.dot(16, 0));
        Due.law(y, "p3(1=1)");
        Due.feed(y, 1, 2, 3);
        y.undo();
        Due.is("the law is not undone", 1, y.count(6));
        Due.is("nor the tape", 20, y.count(7));
    }

    private static WhiteLine allAt5() {
        WhiteLine x = Made.road(8);
        x.party(0, true, 5);
        x.minutes(8);
        return x;
    }

    private static void checkRight() {
        Due.sentence("Promise 35", "CHECK by the first n bytes of the tape (0 to DOTS; empty then): NONE: right");
        WhiteLine x = allAt5();
        for (int n = 0; n <= 8; n++) {
            Due.feed(x, ALL_AT_5);
            Due.is("check(" + n + ")", -1, x.check(n));
            Due.is("empty then", 0, x.count(7));
        }
        Due.is("none of none", -1, x.check(0));
        WhiteLine y = Made.road(64);
        for (int k = 0; k < 4; k++) {
            y.feed(0, 0, 0, 0, 0);
        }
        Due.is("64 that are bare", -1, y.check(64));
    }

    private static void checkWrong() {
        Due.sentence("Promise 35", "else the place of the first one that is not so");
        WhiteLine x = allAt5();
        for (int place = 0; place < 8; place++) {
            int[] wrong = ALL_AT_5.clone();
            wrong[place] = 106;
            wrong[7] = 0;
            Due.feed(x, wrong);
            Due.is("wrong at " + place, place, x.check(8));
            Due.is("empty then", 0, x.count(7));
            Due.feed(x, wrong);
            Due.is("told up to it", -1, x.check(place));
        }
    }

    private static void checkRefused() {
        Due.sentence("Promise 35", "-2: no such n, it has not so many (the tape stays).");
        WhiteLine x = allAt5();
        Due.is("it has none", -2, x.check(1));
        Due.feed(x, ALL_AT_5);
        for (int n : new int[] {-1, 9, 20, 21, LEAST, MOST}) {
            Due.is("check(" + n + ")", -2, x.check(n));
            Due.is("the tape stays", 20, x.count(7));
        }
        Due.is("its bytes", -1, x.check(8));
        WhiteLine y = Made.road(64);
        y.feed(0, 0, 0, 0, 0);
        Due.is("21 of 20", -2, y.check(21));
        Due.is("20 of 20", -1, y.check(20));
    }

    private static void countPlain() {
        Due.sentence("Promise 36", "0 DOTS, 1 THE MINUTE, 2 painted ones, 3 SPOILT ones, 4 CONES, 5 DEW (-2: none), 6 CLAUSES, 7 bytes of the tape");
        WhiteLine x = Made.busy();
        Due.feed(x, 1);
        int[] due = {8, 3, 2, 1, 7, 900, 5, 20};
        for (int what = 0; what < due.length; what++) {
            Due.is("count(" + what + ")", due[what], x.count(what));
        }
        WhiteLine all = Made.by(64, "d99(1=1)");
        all.party(1, true, 0);
        all.car(0, 1, 0);
        all.minutes(64);
        Due.is("64 dots", 64, all.count(0));
        Due.is("64 painted", 64, all.count(2));
        Due.is("64 spoilt", 64, all.count(3));
        x.dew(-1);
        Due.is("no dew", -2, x.count(5));
        x.dew(0);
        Due.is("dew at 0", 0, x.count(5));
    }

    private static void countParties() {
        Due.sentence("Promise 36", "10 + a whether PARTY a works (1, 0), 20 + a its offset (100 more than it is)");
        WhiteLine x = Made.busy();
        x.party(0, false, -20);
        x.party(1, true, 20);
        Due.is("count(10)", 0, x.count(10));
        Due.is("count(11)", 1, x.count(11));
        Due.is("count(20)", 80, x.count(20));
        Due.is("count(21)", 120, x.count(21));
    }

    private static void countCars() {
        Due.sentence("Promise 36", "30 + i the way, 50 + i the MINUTE of told CAR i");
        WhiteLine x = Made.busy();
        x.car(0, 0, 0);
        x.car(11, 1, 9999);
        Due.is("count(30)", 0, x.count(30));
        Due.is("count(41)", 1, x.count(41));
        Due.is("count(50)", 0, x.count(50));
        Due.is("count(61)", 9999, x.count(61));
        for (int i = 1; i < 11; i++) {
            Due.is("way of " + i, i == 3 ? 1 : -1, x.count(30 + i));
            Due.is("minute of " + i, i == 3 ? 2 : -1, x.count(50 + i));
        }
    }

    private static void countOthers() {
        Due.sentence("Promise 36", "of told CAR i. NONE for others.");
        WhiteLine x = Made.busy();
        x.car(0, 1, 1);
        x.car(11, 1, 1);
        for (int what : new int[] {-1, 8, 9, 12, 13, 19, 22, 29, 31, 42, 49, 51, 62, 70, 100, LEAST, MOST}) {
            Due.is("count(" + what + ")", -1, x.count(what));
        }
    }
}
