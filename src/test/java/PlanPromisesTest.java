/** Promises 21 to 24: when to begin, how many cones, the odds ahead of the dew, where both meet. */
public final class PlanPromisesTest {
    public static void main(String[] args) {
        begins();
        beginsAsIfBare();
        beginsByMinutes();
        latest();
        latestByMinutes();
        dewOdds();
        dewOddsRefused();
        meet();
        meetApart();
        refused();
        Due.end("PlanPromisesTest");
    }

    private static WhiteLine by(int dots, String law) {
        WhiteLine x = new WhiteLine();
        x.road(dots);
        if (!law.isEmpty()) {
            Due.is("law " + law, true, Due.law(x, law) > 0);
        }
        return x;
    }

    private static void begins() {
        WhiteLine x = by(8, "p1(1=1);d3(1=1)");
        Due.is("21 dry", 7, x.begins(0, 0));
        Due.is("21 cones", 8, x.begins(0, 1));
        Due.is("21 the last, of both that of party 1", 4, x.begins(0, 2));
        Due.is("21 begun at 600", 607, x.begins(600, 0));
        WhiteLine y = by(8, "p2(1=1);d0(1=1)");
        Due.is("21 dry", 8, y.begins(0, 0));
        Due.is("21 cones", 2, y.begins(0, 1));
        WhiteLine z = by(8, "p2(1=1);d1(1=1)");
        Due.is("21 one wet and one being painted, twice", 4, z.begins(0, 1));
        WhiteLine w = by(9, "p2(1=1);d5(1=1)");
        Due.is("21 the last, by party 0", 4, w.begins(3, 2));
        Due.is("21 ends", 3 + 10 + 5, w.begins(3, 0));
        WhiteLine v = by(8, "p9(i=7);d50(i=0)");
        Due.is("21 party 0 paints seven, party 1 one", 51, v.begins(0, 0));
        Due.is("21 the last is the slow one", 7, v.begins(0, 2));
        Due.is("21 the first one wet all the time", 3, v.begins(0, 1));
        WhiteLine u = by(8, "p9(i=0)");
        Due.is("21 the last is party 0's", 0, u.begins(0, 2));
        Due.is("21 at 9", 9, u.begins(0, 0));
    }

    private static void beginsAsIfBare() {
        WhiteLine x = by(8, "p2(1=1);d3(1=1)");
        int dry = x.begins(5, 0);
        int most = x.begins(5, 1);
        int last = x.begins(5, 2);
        Due.is("21 dry", 16, dry);
        x.party(0, true, 0);
        x.minutes(7);
        x.party(0, false, 0);
        x.cones(0);
        x.dew(6);
        x.car(0, 0, 5);
        x.keep();
        Due.is("21 as if bare", dry, x.begins(5, 0));
        Due.is("21 as if bare", most, x.begins(5, 1));
        Due.is("21 as if bare", last, x.begins(5, 2));
        Due.is("21 changes nothing", 3, x.count(2));
        Due.is("21 changes nothing", 7, x.count(1));
    }

    private static void beginsByMinutes() {
        WhiteLine x = by(8, "p1+t%2(1=1);d10*[t%4](1=1)");
        // From 10: ends at 11, 13, 15, 17: d is 30, 10, 30, 10.
        Due.is("21 t when it ends", 45, x.begins(10, 0));
        // From 11: ends at 13, 15, 17, 19.
        Due.is("21 t when it begins", 49, x.begins(11, 0));
        WhiteLine y = by(8, "p1+2*a(1=1);d9*a(1=1)");
        // Party 0 ends at 1 to 6, party 1 at 3 and 6.
        Due.is("21 by party", 15, y.begins(0, 0));
        Due.is("21 the last", 6, y.begins(0, 2));
        Due.law(y, "p5(r=1);d5(r=1)");
        Due.is("21 no rain in p and d", 4, y.begins(0, 0));
    }

    private static void latest() {
        WhiteLine x = by(8, "p1(1=1);d3(1=1)");
        Due.is("22 by 6", -2, x.latest(6));
        Due.is("22 by 7", 0, x.latest(7));
        Due.is("22 by 8", 1, x.latest(8));
        Due.is("22 by 600", 593, x.latest(600));
        Due.is("22 by 0", -2, x.latest(0));
        WhiteLine y = by(8, "");
        Due.is("22 at the least", 596, y.latest(600));
    }

    private static void latestByMinutes() {
        // Begun later than 50 the paint dries at once; before, in 40.
        WhiteLine x = by(8, "d40(t<52)");
        Due.is("22 by 100", 96, x.latest(100));
        Due.is("22 by 53: 49 is too late for most of it", 9, x.latest(53));
        Due.is("22 by 55: the first ends at 52", 51, x.latest(55));
        Due.is("22 by 54: all of 50 would not be dry", 10, x.latest(54));
        Due.is("22 by 43", -2, x.latest(43));
        Due.is("22 by 44", 0, x.latest(44));
        WhiteLine y = by(8, "p9(t<300)");
        Due.is("22 none is slow", 300, y.latest(304));
        Due.is("22 the first one takes 9, the others 1", 303 - 3 - 9, y.latest(303));
    }

    private static void dewOdds() {
        // Dry at 7.
        WhiteLine x = by(8, "p1(1=1);d3(1=1)");
        odds(x, 0, 5, 7, 10, 1, 2, 3, 4);
        odds(x, 0, 7, 1, 1, 1, 2, 3, 4);
        odds(x, 0, 4, 2, 5, 1, 2, 3, 4);
        odds(x, 1, 5, 2, 5, 1, 2, 3, 4);
        odds(x, 10, 5, 0, 1, 1, 2, 3, 4);
        odds(x, 0, 6, 1, 2, 255, 255);
        odds(x, 0, 7, 1, 1, 1);
        odds(x, 0, 6, 0, 1, 1);
        odds(x, 0, 0, 1, 8, 1, 1, 1, 1, 1, 1, 1, 1);
        odds(x, 0, 7, 1, 1, 0, 0, 5);
        odds(x, 600, 9999, 1, 1, 200);
        int[] weights = new int[40];
        java.util.Arrays.fill(weights, 254);
        odds(x, 0, 0, 33, 40, weights);
        Due.feed(x, 0, 0, 7);
        Due.is("23 no weight above 0", -2, x.dewOdds(0, 5, 2, 0));
        Due.is("23 empty then", 0, x.count(7));
    }

    private static void odds(WhiteLine x, int minute, int from, int above, int below, int... weights) {
        Due.feed(x, weights);
        Due.is("23 above the line", above, x.dewOdds(minute, from, weights.length, 0));
        Due.is("23 empty then", 0, x.count(7));
        Due.feed(x, weights);
        Due.is("23 below the line", below, x.dewOdds(minute, from, weights.length, 1));
    }

    private static void dewOddsRefused() {
        WhiteLine x = by(8, "");
        Due.is("23 it has none", -1, x.dewOdds(0, 0, 1, 0));
        Due.feed(x, 1);
        int[][] none = {{-1, 0, 1, 0}, {601, 0, 1, 0}, {0, -1, 1, 0}, {0, 10000, 1, 0}, {0, 0, 0, 0}, {0, 0, 41, 0},
            {0, 0, 21, 0}, {0, 0, 1, -1}, {0, 0, 1, 2}, {Integer.MAX_VALUE, 0, 1, 0}, {0, Integer.MIN_VALUE, 1, 0},
            {0, 0, Integer.MAX_VALUE, 0}, {0, 0, 1, Integer.MIN_VALUE}};
        for (int[] c : none) {
            Due.is("23 dewOdds(" + c[0] + ", " + c[1] + ", " + c[2] + ", " + c[3] + ")", -1,
                    x.dewOdds(c[0], c[1], c[2], c[3]));
            Due.is("23 the tape stays", 20, x.count(7));
        }
        for (int k = 0; k < 2; k++) {
            x.feed(-1, -1, -1, -1, -1);
        }
        Due.is("23 more than 40", -1, x.dewOdds(0, 0, 41, 0));
    }

    private static void meet() {
        WhiteLine x = by(8, "");
        int[][] due = {{0, 0, 3, 4, 0}, {0, 4, 5, 6, 0}, {4, 0, 1, 6, 0}, {0, 1, 4, 5, 0}, {1, 0, 3, 5, 0},
            {0, 7, 7, 8, -2}, {0, 6, 6, 7, 0}, {7, 0, 0, 8, 0}, {8, 0, -2, 8, -2}, {600, 0, -2, 8, -2},
            {0, 600, 7, 8, -2}, {600, 600, 3, 604, 0}};
        for (int[] one : due) {
            for (int what = 0; what < 3; what++) {
                Due.is("24 meet(" + one[0] + ", " + one[1] + ", " + what + ")", one[2 + what],
                        x.meet(one[0], one[1], what));
            }
        }
        WhiteLine y = by(8, "p3(a=1);p1+t/3(a=0)");
        // Party 0 ends at 1, 2, 3, 5, 7; party 1 at 3, 6, 9.
        Due.is("24 by the law", 4, y.meet(0, 0, 0));
        Due.is("24 the last end", 9, y.meet(0, 0, 1));
    }

    private static void meetApart() {
        WhiteLine x = by(8, "");
        Due.kerb(x, "0,0,0,5,9,0,0,0");
        x.party(0, false, 7);
        x.party(1, true, -3);
        Due.is("24 from 5 + 7 to 9 - 3", 6, x.meet(0, 0, 2));
        Due.kerb(x, "0,0,0,95,-98,0,0,0");
        Due.is("24 both held", 198, x.meet(0, 0, 2));
        Due.is("24 elsewhere", Math.abs(-91 - -3), x.meet(0, 1, 2));
        x.minutes(9);
        x.burns(2, 3);
        x.cones(0);
        Due.is("24 as if bare", 198, x.meet(0, 0, 2));
    }

    private static void refused() {
        WhiteLine x = by(8, "");
        int[][] none = {{-1, 0}, {601, 0}, {0, -1}, {0, 3}, {Integer.MIN_VALUE, 0}, {0, Integer.MAX_VALUE}};
        for (int[] call : none) {
            Due.is("21 begins(" + call[0] + ", " + call[1] + ")", -1, x.begins(call[0], call[1]));
        }
        for (int by : new int[] {-1, 601, Integer.MIN_VALUE, Integer.MAX_VALUE}) {
            Due.is("22 latest(" + by + ")", -1, x.latest(by));
        }
        int[][] noMeeting = {{-1, 0, 0}, {601, 0, 0}, {0, -1, 0}, {0, 601, 0}, {0, 0, -1}, {0, 0, 3},
            {Integer.MIN_VALUE, 0, 0}, {0, Integer.MAX_VALUE, 0}, {0, 0, Integer.MAX_VALUE}};
        for (int[] call : noMeeting) {
            Due.is("24 meet(" + call[0] + ", " + call[1] + ", " + call[2] + ")", -1, x.meet(call[0], call[1], call[2]));
        }
    }
}
