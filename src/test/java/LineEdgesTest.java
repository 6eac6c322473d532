/** Terms, part 2: each sentence on SMOOTH, DOTS APART, A JOIN and PINNED that names an edge. */
public final class LineEdgesTest {
    private static final String SMOOTH = "Terms, SMOOTH";
    private static final String APART = "Terms, DOTS APART";
    private static final String PINNED = "Terms, PINNED";

    public static void main(String[] args) {
        smoothWithin30();
        smoothByG();
        smoothAsLittleAsCanBe();
        smoothOfLikeOnes();
        apartAtWhichDots();
        apartGoesStraight();
        apartRounds();
        apartGreatest();
        apartWithinE();
        joins();
        pinnedFirstAndLast();
        pinnedWithinE();
        pinnedFewest();
        Due.end("LineEdgesTest");
    }

    private static WhiteLine kerb(String row) {
        WhiteLine x = Made.road(8);
        Due.is("kerb " + row, true, Due.kerb(x, row) >= 0);
        return x;
    }

    private static void smoothIs(String row, int g, int off, int... due) {
        WhiteLine x = kerb(row);
        Due.is("smooth(" + g + ", 100) by " + row, off, x.smooth(g, 100));
        for (int i = 0; i < due.length; i++) {
            Due.is("smooth(" + g + ", " + i + ") by " + row, due[i] + 100, x.smooth(g, i));
        }
    }

    private static void smoothWithin30() {
        Due.sentence(SMOOTH, "offsets of all DOTS (-30 to 30 each)");
        smoothIs("30*8", 9, 0, 30, 30, 30, 30, 30, 30, 30, 30);
        smoothIs("31*8", 9, 8, 30, 30, 30, 30, 30, 30, 30, 30);
        smoothIs("-30*8", 9, 0, -30, -30, -30, -30, -30, -30, -30, -30);
        smoothIs("-31*8", 9, 8, -30, -30, -30, -30, -30, -30, -30, -30);
        smoothIs("-29*8", 0, 0, -29, -29, -29, -29, -29, -29, -29, -29);
        smoothIs("29*8", 0, 0, 29, 29, 29, 29, 29, 29, 29, 29);
        smoothIs("99*8", 0, 8 * 69, 30, 30, 30, 30, 30, 30, 30, 30);
        smoothIs("-99*8", 0, 8 * 69, -30, -30, -30, -30, -30, -30, -30, -30);
    }

    private static void smoothByG() {
        Due.sentence(SMOOTH, "no two beside each other are more than g (0 to 9) apart");
        smoothIs("0*7,9", 9, 0, 0, 0, 0, 0, 0, 0, 0, 9);
        smoothIs("0*7,9", 8, 1, 0, 0, 0, 0, 0, 0, 0, 8);
        smoothIs("9,0*7", 8, 1, 8, 0, 0, 0, 0, 0, 0, 0);
        smoothIs("0*7,10", 9, 1, 0, 0, 0, 0, 0, 0, 0, 9);
        smoothIs("0*7,1", 0, 1, 0, 0, 0, 0, 0, 0, 0, 0);
        Due.is("g 9", 0, kerb("0*8").smooth(9, 100));
        Due.is("g 10", -1, kerb("0*8").smooth(10, 100));
        Due.is("g -1", -1, kerb("0*8").smooth(-1, 100));
    }

    private static void smoothAsLittleAsCanBe() {
        Due.sentence(SMOOTH, "so that they are off the KERB as little as can be together");
        smoothIs("0*5,7*3", 0, 21, 0, 0, 0, 0, 0, 0, 0, 0);
        smoothIs("0*3,7*5", 0, 21, 7, 7, 7, 7, 7, 7, 7, 7);
        smoothIs("0,0,0,5,0,0,0,0", 2, 3, 0, 0, 0, 2, 0, 0, 0, 0);
        smoothIs("0,0,5,5,5,0,0,0", 3, 4, 0, 0, 3, 5, 3, 0, 0, 0);
    }

    private static void smoothOfLikeOnes() {
        Due.sentence(SMOOTH, "of like ones the least row");
        smoothIs("0*4,4*4", 0, 16, 0, 0, 0, 0, 0, 0, 0, 0);
        smoothIs("4*4,0*4", 0, 16, 0, 0, 0, 0, 0, 0, 0, 0);
        smoothIs("0*4,4*4", 1, 4, 0, 0, 0, 1, 2, 3, 4, 4);
        smoothIs("-4*4,4*4", 0, 32, -4, -4, -4, -4, -4, -4, -4, -4);
        // Falling by 1 a dot from 4 to 0: over dots 2 to 5 or 3 to 6; the least row falls first.
        smoothIs("4*4,0*4", 1, 4, 4, 4, 3, 2, 1, 0, 0, 0);
    }

    private static void apartIs(String row, int e, int m, int off) {
        Due.is("apart(" + e + ", 0) by " + row, m, kerb(row).apart(e, 0));
        Due.is("apart(" + e + ", 1) by " + row, off, kerb(row).apart(e, 1));
    }

    private static void apartAtWhichDots() {
        Due.sentence(APART, "at DOT 0 and each m-th one, and the last");
        // By 3: dots 0, 3, 6 and 7 are told; by 6: dots 0, 6 and 7.
        apartIs("0,1,2,3,2,1,0,9", 0, 3, 0);
        apartIs("0,0,0,0,0,0,0,9", 0, 6, 0);
        apartIs("9,0,0,0,0,0,0,0", 0, 1, 0);
        // By 7 and more dots 0 and 7 alone are told.
        apartIs("0,1,2,3,4,5,6,7", 0, 16, 0);
    }

    private static void apartGoesStraight() {
        Due.sentence(APART, "through DOTS between both, rounded toward 0)");
        // From 0 to 21 in seven: 3 a dot.
        apartIs("0,3,6,9,12,15,18,21", 0, 16, 0);
        apartIs("0,4,6,9,12,15,18,21", 0, 1, 0);
        apartIs("0,4,6,9,12,15,18,21", 1, 16, 1);
        apartIs("21,18,15,12,9,6,3,0", 0, 16, 0);
    }

    private static void apartRounds() {
        Due.sentence(APART, "rounded toward 0)");
        apartIs("0,0,0,-1,-1,-2,-2,-3", 0, 16, 0);
        apartIs("5,5,5,4,4,3,3,2", 0, 16, 0);
        apartIs("0,0,0,1,1,2,2,3", 0, 16, 0);
        apartIs("-5,-5,-5,-4,-4,-3,-3,-2", 0, 16, 0);
        apartIs("-2,-2,-2,-1,-1,0,0,1", 0, 16, 0);
    }

    private static void apartGreatest() {
        Due.sentence(APART, "the greatest m (1 to 16)");
        apartIs("0,9,0,9,0,9,0,9", 0, 1, 0);
        // From 0 to 9 in seven the line is at 1, 2, 3, 5, 6, 7.
        apartIs("0,9,0,9,0,9,0,9", 99, 16, 8 + 2 + 6 + 5 + 3 + 7);
        WhiteLine x = Made.road(40);
        Due.kerb(x, "0*20,1*20");
        Due.is("not above 16", 16, x.apart(1, 0));
        Due.is("the greatest, not the first that fits not", 10, x.apart(0, 0));
        Due.is("of 64", 16, Made.road(64).apart(0, 0));
    }

    private static void apartWithinE() {
        Due.sentence(APART, "by which no DOT is more than e off its KERB");
        apartIs("0,0,0,0,9,0,0,0", 9, 16, 9);
        apartIs("0,0,0,0,9,0,0,0", 8, 4, 2 + 4 + 6 + 6 + 3);
        apartIs("0,0,0,0,9,0,0,0", 6, 4, 2 + 4 + 6 + 6 + 3);
        // By 2 the line is at 4 at dot 3, and at 9 less 4 at dot 5.
        apartIs("0,0,0,0,9,0,0,0", 5, 2, 4 + 5);
        apartIs("0,0,0,0,9,0,0,0", 4, 1, 0);
        apartIs("0,0,0,0,-9,0,0,0", 8, 4, 2 + 4 + 6 + 6 + 3);
        apartIs("0,99,0*6", 99, 16, 99);
        apartIs("0,99,0*6", 98, 1, 0);
    }

    private static void joins() {
        Due.sentence("Terms, A JOIN", "from an offset to another one by at most g a DOT: the fewest DOTS that lie between");
        WhiteLine x = Made.road(8);
        int[][] joins = {{5, 5, 0, 0}, {5, 5, 9, 0}, {0, 1, 1, 0}, {0, 2, 1, 1}, {2, 0, 1, 1}, {0, 9, 9, 0}, {0, 10, 9, 1},
            {0, 18, 9, 1}, {0, 19, 9, 2}, {-99, 99, 1, 197}, {99, -99, 9, 21}};
        for (int[] one : joins) {
            Due.is("joins(" + one[0] + ", " + one[1] + ", " + one[2] + ")", one[3], x.joins(one[0], one[1], one[2]));
        }
    }

    private static void pinsAre(WhiteLine x, int e, int... pins) {
        Due.is("pinned(" + e + ", 100)", pins.length, x.pinned(e, 100));
        for (int k = 0; k < pins.length; k++) {
            Due.is("pinned(" + e + ", " + k + ")", pins[k], x.pinned(e, k));
        }
    }

    private static void pinnedFirstAndLast() {
        Due.sentence(PINNED, "PINNED: DOTS, the first and the last among them");
        pinsAre(kerb("0*8"), 0, 0, 7);
        pinsAre(kerb("0*7,9"), 99, 0, 7);
        pinsAre(Made.road(64), 0, 0, 63);
        WhiteLine x = kerb("9*8");
        x.smooth(0, 100);
        pinsAre(x, 0, 0, 7);
    }

    private static void pinnedWithinE() {
        Due.sentence(PINNED, "(as in DOTS APART), so that no DOT is more than e off");
        pinsAre(kerb("0,0,0,9,0,0,0,0"), 9, 0, 7);
        // With one pin at dot 3 the line is 3 and 6, then 7, 5 and 3 off; with one at dot 2, 9 off at dot 3.
        pinsAre(kerb("0,0,0,9,0,0,0,0"), 8, 0, 3, 7);
        pinsAre(kerb("0,0,0,9,0,0,0,0"), 7, 0, 3, 7);
        pinsAre(kerb("0,0,0,9,0,0,0,0"), 6, 0, 3, 4, 7);
        pinsAre(kerb("0,0,0,-9,0,0,0,0"), 7, 0, 3, 7);
        pinsAre(kerb("0,9,0,9,0,9,0,9"), 0, 0, 1, 2, 3, 4, 5, 6, 7);
    }

    private static void pinnedFewest() {
        Due.sentence(PINNED, "the fewest; of like ones the least row");
        // By 3 a pin at dot 1 does as well as one at dot 6.
        pinsAre(kerb("0,4,4,4,4,4,4,0"), 3, 0, 1, 7);
        pinsAre(kerb("0,4,4,4,4,4,4,0"), 0, 0, 1, 6, 7);
        pinsAre(kerb("0,2,4,6,6,4,2,0"), 0, 0, 3, 4, 7);
    }
}
