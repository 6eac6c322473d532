/** Promises 15, 16, 20 and 25: lines that keep to the kerb, and joins. */
public final class LinePromisesTest {
    public static void main(String[] args) {
        smooth();
        smoothOfLikeOnes();
        smoothRefused();
        apart();
        apartRounds();
        apartRefused();
        joins();
        pinned();
        pinnedOfLikeOnes();
        pinnedRefused();
        Due.end("LinePromisesTest");
    }

    private static WhiteLine by(String kerb) {
        WhiteLine x = new WhiteLine();
        x.road(8);
        Due.is("kerb " + kerb, true, Due.kerb(x, kerb) >= 0);
        return x;
    }

    private static void rowIs(WhiteLine x, int g, int... due) {
        for (int i = 0; i < due.length; i++) {
            Due.is("15 smooth(" + g + ", " + i + ")", due[i] + 100, x.smooth(g, i));
        }
    }

    private static void smooth() {
        WhiteLine x = by("0,3,6,9,12,15,18,21");
        Due.is("15 the kerb itself", 0, x.smooth(3, 100));
        rowIs(x, 3, 0, 3, 6, 9, 12, 15, 18, 21);
        // A line that rises by 2 from a on is a - i off at dot i: a is 3 or 4, the least row has 3.
        Due.is("15 too steep", 3 + 2 + 1 + 0 + 1 + 2 + 3 + 4, x.smooth(2, 100));
        rowIs(x, 2, 3, 5, 7, 9, 11, 13, 15, 17);
        Due.is("15 level", 9 + 6 + 3 + 0 + 3 + 6 + 9 + 12, x.smooth(0, 100));
        rowIs(x, 0, 9, 9, 9, 9, 9, 9, 9, 9);
        WhiteLine y = by("99,-99*7");
        Due.is("15 held in -30 to 30", 120 + 7 * 69, y.smooth(9, 100));
        rowIs(y, 9, -21, -30, -30, -30, -30, -30, -30, -30);
        WhiteLine z = by("-99*8");
        rowIs(z, 5, -30, -30, -30, -30, -30, -30, -30, -30);
        Due.is("15 off", 8 * 69, z.smooth(5, 100));
        WhiteLine w = by("0*7,9");
        rowIs(w, 9, 0, 0, 0, 0, 0, 0, 0, 9);
        Due.is("15 steps of 9", 0, w.smooth(9, 100));
        Due.is("15 steps of 8", 1, w.smooth(8, 100));
        WhiteLine all = new WhiteLine();
        all.road(64);
        Due.kerb(all, "1*63,5");
        Due.is("15 64 dots", 4, all.smooth(0, 100));
        Due.is("15 the last", 101, all.smooth(0, 63));
    }

    private static void smoothOfLikeOnes() {
        // Any level from 0 to 4 is 16 off: the least row is at 0.
        WhiteLine x = by("0*4,4*4");
        Due.is("15 off", 16, x.smooth(0, 100));
        rowIs(x, 0, 0, 0, 0, 0, 0, 0, 0, 0);
        // By 1 a dot it rises over dots 2 to 5 or 3 to 6: the least row begins later.
        Due.is("15 off", 4, x.smooth(1, 100));
        rowIs(x, 1, 0, 0, 0, 1, 2, 3, 4, 4);
    }

    private static void smoothRefused() {
        WhiteLine x = by("0*8");
        int[][] none = {{-1, 100}, {10, 100}, {0, -1}, {0, 8}, {0, 99}, {0, 101}, {Integer.MIN_VALUE, 0},
            {Integer.MAX_VALUE, 0}, {0, Integer.MIN_VALUE}, {0, Integer.MAX_VALUE}};
        for (int[] call : none) {
            Due.is("15 smooth(" + call[0] + ", " + call[1] + ")", -1, x.smooth(call[0], call[1]));
        }
    }

    private static void apart() {
        WhiteLine x = by("0,1,2,3,4,5,6,7");
        Due.is("16 straight", 16, x.apart(0, 0));
        Due.is("16 straight", 0, x.apart(0, 1));
        WhiteLine y = by("0,0,0,0,9,0,0,0");
        Due.is("16 by e 8", 4, y.apart(8, 0));
        Due.is("16 by e 0", 1, y.apart(0, 0));
        Due.is("16 by m 1 none is off", 0, y.apart(0, 1));
        Due.is("16 by e 9", 16, y.apart(9, 0));
        Due.is("16 off by it", 9, y.apart(9, 1));
        // Told at 0, 4 and 7: straight from 9 to 0 in three: 6, 3; from 0 to 9 in four: 2, 4, 6.
        Due.is("16 by e 6: 0, 4, 7", 4, y.apart(6, 0));
        Due.is("16 off by it", 2 + 4 + 6 + 6 + 3, y.apart(6, 1));
        // At every second dot the kerb is as straight as the line.
        Due.is("16 by 2", 2, by("0,1,2,9,16,8,0,0").apart(0, 0));
        WhiteLine z = new WhiteLine();
        z.road(40);
        Due.kerb(z, "0*20,1*20");
        Due.is("16 at most 16", 16, z.apart(1, 0));
        // Dot 20 must be a told one, or the line is still at 0 there.
        Due.is("16 the greatest that divides 20", 10, z.apart(0, 0));
    }

    private static void apartRounds() {
        // 0 and -3 in seven, rounded toward 0: 0, 0, -1, -1, -2, -2.
        WhiteLine x = by("0,0,0,-1,-1,-2,-2,-3");
        Due.is("16 toward 0, falling", 16, x.apart(0, 0));
        WhiteLine y = by("5,5,5,4,4,3,3,2");
        Due.is("16 what is otherwise is rounded, not where it comes to", 16, y.apart(0, 0));
        WhiteLine z = by("0,0,0,1,1,2,2,3");
        Due.is("16 toward 0, rising", 16, z.apart(0, 0));
        WhiteLine w = by("-5,-5,-5,-4,-4,-3,-3,-2");
        Due.is("16 toward 0, below", 16, w.apart(0, 0));
    }

    private static void apartRefused() {
        WhiteLine x = by("0*8");
        int[][] none = {{-1, 0}, {100, 0}, {0, -1}, {0, 2}, {Integer.MIN_VALUE, 0}, {Integer.MAX_VALUE, 0},
            {0, Integer.MIN_VALUE}, {0, Integer.MAX_VALUE}};
        for (int[] call : none) {
            Due.is("16 apart(" + call[0] + ", " + call[1] + ")", -1, x.apart(call[0], call[1]));
        }
        Due.is("16 the most", 16, x.apart(99, 0));
    }

    private static void joins() {
        WhiteLine x = new WhiteLine();
        int[][] due = {{5, 5, 0, 0}, {5, 5, 9, 0}, {5, 6, 0, -2}, {0, 1, 1, 0}, {0, 2, 1, 1}, {2, 0, 1, 1},
            {0, 9, 3, 2}, {0, 10, 3, 3}, {0, 8, 9, 0}, {0, 9, 9, 0}, {0, 10, 9, 1}, {-99, 99, 1, 197},
            {99, -99, 9, 21}, {99, -99, 0, -2}};
        for (int[] one : due) {
            Due.is("20 joins(" + one[0] + ", " + one[1] + ", " + one[2] + ")", one[3], x.joins(one[0], one[1], one[2]));
        }
        int[][] none = {{100, 0, 1}, {-100, 0, 1}, {0, 100, 1}, {0, -100, 1}, {0, 0, -1}, {0, 0, 10},
            {Integer.MIN_VALUE, 0, 1}, {0, Integer.MAX_VALUE, 1}, {0, 0, Integer.MIN_VALUE}};
        for (int[] call : none) {
            Due.is("20 joins(" + call[0] + ", " + call[1] + ", " + call[2] + ")", -1, x.joins(call[0], call[1], call[2]));
        }
    }

    private static void pinnedIs(WhiteLine x, int e, int off, int... pins) {
        Due.is("25 pinned(" + e + ", 100)", pins.length, x.pinned(e, 100));
        Due.is("25 pinned(" + e + ", 101)", off, x.pinned(e, 101));
        for (int k = 0; k < pins.length; k++) {
            Due.is("25 pinned(" + e + ", " + k + ")", pins[k], x.pinned(e, k));
        }
        for (int k = pins.length; k < 100; k++) {
            Due.is("25 pinned(" + e + ", " + k + ")", -2, x.pinned(e, k));
        }
        int[] noPlaces = {-1, -2, -100, 102, 124, 200, Integer.MIN_VALUE, Integer.MAX_VALUE};
        for (int k : noPlaces) {
            Due.is("25 pinned(" + e + ", " + k + ")", -2, x.pinned(e, k));
        }
    }

    private static void pinned() {
        pinnedIs(by("0,1,2,3,4,5,6,7"), 0, 0, 0, 7);
        pinnedIs(by("0,2,4,6,6,4,2,0"), 0, 0, 0, 3, 4, 7);
        pinnedIs(by("0,2,4,6,6,4,2,0"), 6, 24, 0, 7);
        pinnedIs(by("0,9,0,9,0,9,0,9"), 0, 0, 0, 1, 2, 3, 4, 5, 6, 7);
        // From 6 to 0 in four: 1, 3, 4 less.
        pinnedIs(by("0,2,4,6,6,4,2,0"), 2, 1 + 1 + 0, 0, 3, 7);
    }

    private static void pinnedOfLikeOnes() {
        // By 3 a corner at 1 will do as well as one later: from 4 to 0 in six, 0, 1, 2, 2, 3 less.
        WhiteLine x = by("0,4,4,4,4,4,4,0");
        pinnedIs(x, 4, 24, 0, 7);
        pinnedIs(x, 3, 0 + 1 + 2 + 2 + 3, 0, 1, 7);
    }

    private static void pinnedRefused() {
        WhiteLine x = by("0*8");
        // NONE is told ahead of -2.
        int[][] none = {{-1, 0}, {100, 0}, {Integer.MIN_VALUE, 0}, {Integer.MAX_VALUE, 0},
            {-1, -1}, {-1, 100}, {-1, 124}, {100, -1}, {100, 101}, {100, 124}};
        for (int[] call : none) {
            Due.is("25 pinned(" + call[0] + ", " + call[1] + ")", -1, x.pinned(call[0], call[1]));
        }
    }
}
