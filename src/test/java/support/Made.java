/** Objects made ready for a test, and all that can be seen of one. */
final class Made {
    private static final int COUNTS = 62;
    private static final int OF_A_DOT = 9;

    private Made() {
    }

    static WhiteLine road(int dots) {
        WhiteLine x = new WhiteLine();
        Due.is("a test's own road(" + dots + ")", true, x.road(dots));
        return x;
    }

    static WhiteLine by(int dots, String law) {
        WhiteLine x = road(dots);
        Due.is("a test's own law " + law, true, Due.law(x, law) > 0);
        return x;
    }

    /** A road of 8 dots by a law, painted by a party from a minute on, one dot a minute if p is 1. */
    static WhiteLine painted(String law, int party, int minutes) {
        WhiteLine x = by(8, law);
        x.party(party, true, 0);
        x.minutes(minutes);
        x.party(party, false, 0);
        return x;
    }

    /** A road with something of everything on it: 8 dots, 2 painted, 1 spoilt, 2 being painted. */
    static WhiteLine busy() {
        WhiteLine x = by(8, "p2(1=1);d9(1=1);s2(1=1);o5(1=1);l9(1=1)");
        Due.kerb(x, "1,2,3,4,5,-6,-7,-8");
        Due.height(x, "0,0,5,0,0,5,0,0");
        Due.wear(x, "8,7,6,5,4,3,2,1");
        x.old(1, 4, -3);
        x.party(0, true, 4);
        x.party(1, true, -4);
        x.car(3, 1, 2);
        x.cones(7);
        x.dew(900);
        x.minutes(3);
        return x;
    }

    /** A row of 64 values in 120 bytes; the sum is 406. */
    static String longestRow() {
        return "10,".repeat(38) + "1,1*25";
    }

    static int[] allOf(WhiteLine x) {
        int dots = x.count(0);
        int[] all = new int[COUNTS + dots * OF_A_DOT];
        for (int what = 0; what < COUNTS; what++) {
            all[what] = x.count(what);
        }
        for (int k = 0; k < dots * OF_A_DOT; k++) {
            all[COUNTS + k] = x.dot(k / OF_A_DOT, k % OF_A_DOT);
        }
        return all;
    }

    /** Says which count or dot is not as it was. */
    static void isAs(String call, int[] before, WhiteLine x) {
        int[] now = allOf(x);
        Due.is(call + ": as many answers", before.length, now.length);
        for (int k = 0; k < Math.min(before.length, now.length); k++) {
            int of = k - COUNTS;
            String told = of < 0 ? "count(" + k + ")" : "dot(" + of / OF_A_DOT + ", " + of % OF_A_DOT + ")";
            Due.is(call + ": then " + told, before[k], now[k]);
        }
    }

    static void rowIs(String of, WhiteLine x, int what, int... due) {
        for (int i = 0; i < due.length; i++) {
            Due.is(of + ": dot(" + i + ", " + what + ")", due[i], x.dot(i, what));
        }
    }
}
