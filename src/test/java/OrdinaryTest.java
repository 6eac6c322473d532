/**
 * The words of the document that name no edge and so have no test in the *EdgesTests: each with a
 * case worked out by hand.
 */
public final class OrdinaryTest {
    public static void main(String[] args) {
        minuteAndSpoilt();
        tried();
        straight();
        seen();
        toBegin();
        odds();
        toMeet();
        pinned();
        lights();
        whichLine();
        burntFirst();
        mostWear();
        twos();
        tellsOtherwise();
        partyWorks();
        rowsOfADot();
        paintedThen();
        rainOrNot();
        lightsFromTheTape();
        Due.end("OrdinaryTest");
    }

    private static void minuteAndSpoilt() {
        Due.sentence("Terms, THE ROAD", "and the MINUTE at which it was painted; SPOILT or not");
        WhiteLine x = Made.by(8, "p3(1=1);d2(1=1)");
        x.party(0, true, 0);
        x.car(4, 1, 0);
        // Dots 0 and 1 end at 3 and 6; the car is at dot 7 - t: at dot 1, being painted no more, at 6.
        Due.is("painted", 2, x.minutes(7));
        Made.rowIs("its minute", x, 5, 3, 6, -2, -2, -2, -2, -2, -2);
        Made.rowIs("spoilt", x, 6, -2, 4, -2, -2, -2, -2, -2, -2);
    }

    private static void tried() {
        Due.sentence("Terms, TRIED", "TRIED are n MINUTES");
        WhiteLine x = Made.busy();
        int[] before = Made.allOf(x);
        for (int n = 1; n <= 30; n++) {
            WhiteLine y = Made.busy();
            y.minutes(n);
            int wet = 0;
            int off = 0;
            for (int i = 0; i < 8; i++) {
                wet += y.dot(i, 7);
                off += y.dot(i, 4) < 0 ? 0 : Math.abs(y.dot(i, 4) - 100 - y.dot(i, 0));
            }
            Due.is("painted in " + n, y.count(2), x.tried(n, 0));
            Due.is("spoilt in " + n, y.count(3), x.tried(n, 1));
            Due.is("wet in " + n, wet, x.tried(n, 2));
            Due.is("done in " + n, y.count(2) == 8 && wet == 0, x.tried(n, 3) == 1);
            Due.is("off the kerb in " + n, off, x.tried(n, 6));
        }
        Made.isAs("tried", before, x);
    }

    private static void straight() {
        Due.sentence("Terms, DOTS APART", "between two of them the line goes straight (KERB of the one ahead, and what is "
                + "otherwise at the next one, times DOTS from the one ahead");
        WhiteLine x = Made.road(9);
        Due.kerb(x, "10,0*3,-10,0*4");
        // By 4: 10, 5, 0, -5, -10, -8, -5, -3, 0. By 5 dot 4 is 12 off; by more dot 1 is 9 off.
        Due.is("m", 4, x.apart(8, 0));
        Due.is("how far off", 5 + 5 + 8 + 5 + 3, x.apart(8, 1));
        // By 3 dot 4 is 10 off; by 2 dots 1, 3 and 5 are 5 off.
        Due.is("m by 7", 2, x.apart(7, 0));
        Due.is("m by 4", 1, x.apart(4, 0));
    }

    private static void seen() {
        Due.sentence("Terms, SEEN", "SEEN: from a DOT");
        WhiteLine x = Made.road(9);
        Due.height(x, "0,1,2,3,4,3,2,1,0");
        int[] rising = {4, 3, 2, 1, 4, 3, 2, 1, 0};
        for (int i = 0; i < 9; i++) {
            Due.is("rising from " + i, rising[i], x.seen(i, 0, 1));
            Due.is("falling from " + (8 - i), rising[i], x.seen(8 - i, 1, 1));
        }
        // From 3, eye at 7: to 5 the line is at 5 over dot 4; to 6 at 5.33, to 7 at 5.5, to 8 at 5.6.
        Due.is("a higher eye sees over it", 5, x.seen(3, 0, 4));
    }

    private static void toBegin() {
        Due.sentence("Terms, TO BEGIN", "TO BEGIN: both PARTIES paint the road");
        WhiteLine x = Made.by(9, "p1+i%2(1=1)");
        // Both: 1, 3, 4, 6 as ends; dot 4 is left, for party 0: from 6 to 7.
        Due.is("all dry", 7, x.begins(0, 0));
        Due.is("cones", 2, x.begins(0, 1));
        Due.is("last", 4, x.begins(0, 2));
    }

    private static void odds() {
        Due.sentence("Terms, ODDS", "told weights that DEW comes in MINUTES on end");
        for (int what = 0; what <= 1; what++) {
            WhiteLine x = Made.road(8);
            // All is dry at 4: of the weights in 2, 3, 4, 5 the last two.
            Due.feed(x, 3, 0, 5, 4);
            Due.is("9 of 12, what " + what, 3 + what, x.dewOdds(0, 2, 4, what));
        }
    }

    private static void toMeet() {
        Due.sentence("Terms, TO MEET", "TO MEET: on a road as if it were bare, without CARS and DEW, with CONES enough");
        WhiteLine x = Made.by(8, "p1+a(1=1);d99(1=1)");
        x.party(0, true, 1);
        x.party(1, true, -2);
        x.minutes(5);
        x.car(1, 1, 0);
        x.dew(2);
        x.cones(0);
        // From 3 and 0: party 1 ends 7 at 2, 6 at 4, 5 at 6, 4 at 8; party 0 ends 0 to 3 at 4, 5, 6, 7.
        Due.is("the highest of party 0", 3, x.meet(3, 0, 0));
        Due.is("the last end", 8, x.meet(3, 0, 1));
        Due.is("how far apart", 3, x.meet(3, 0, 2));
    }

    private static void pinned() {
        Due.sentence("Terms, PINNED", "between which the line goes straight");
        WhiteLine x = Made.road(8);
        Due.kerb(x, "0,1,2,3,9,6,3,0");
        int[] due = {0, 3, 4, 7, -2};
        for (int place = 0; place < due.length; place++) {
            Due.is("place " + place, due[place], x.pinned(0, place));
        }
        Due.is("how many", 4, x.pinned(0, 100));
        Due.is("how far off", 0, x.pinned(0, 101));
        // From 4 straight to 7 dots 5 and 6 are 1 off; from 5 to 7 dot 6 is 2 off: later is not better.
        Due.kerb(x, "-2*4,0,1,-1,0");
        Due.is("how many by 1", 3, x.pinned(1, 100));
        Due.is("the one between", 4, x.pinned(1, 1));
        Due.is("how far off on both sides of it", 1 + 1 + 1 + 1, x.pinned(1, 101));
    }

    private static void lights() {
        Due.sentence("Terms, LIGHTS", "cars come at told MINUTES from both ends; each end has green for g MINUTES by turns");
        WhiteLine x = new WhiteLine();
        // By g 2, r 1 end 0 has 0, 1, 6, 7 .., end 1 has 3, 4, 9, 10 ..: they go at 3, 1, 6, 4, 9.
        Due.feed(x, 0, 1, 1, 0, 2, 0, 2, 1, 9, 1);
        Due.is("by 2", 3 + 0 + 4 + 2 + 0, x.lights(5, 1, 12));
        // By g 1, r 1 end 0 has 0, 4, 8 .., end 1 has 2, 6, 10 ..: they go at 2, 4, 8, 6, 10.
        Due.feed(x, 0, 1, 1, 0, 2, 0, 2, 1, 9, 1);
        Due.is("by 1", 2 + 3 + 6 + 4 + 1, x.lights(5, 1, 11));
    }

    private static void whichLine() {
        Due.sentence("Terms, BELIEVED", "BELIEVED: which line a driver believes at a DOT");
        WhiteLine x = Made.by(8, "o10+w(1=1);l14(1=1)");
        Due.wear(x, "0,1,2,3,4,5,6,7");
        x.old(0, 6, 1);
        x.party(0, true, 0);
        x.minutes(6);
        // Dots 0 to 5 are painted: 14 plain; the old line is 10 plain at dot 0, 15 at dot 5.
        int[] due = {2, 2, 2, 2, 2, 1, 1, 0};
        for (int i = 0; i < 8; i++) {
            Due.is("at " + i, due[i], x.believed(i, false));
        }
    }

    private static void burntFirst() {
        Due.sentence("Terms, BURNT FIRST", "BURNT FIRST: a stretch of told length in which the OLD line is burnt off");
        WhiteLine x = Made.by(8, "o9(1=1)");
        x.old(0, 7, 0);
        x.old(1, 2, 9);
        x.old(5, 5, -9);
        Due.is("lost", 3, x.lost(5, false));
        int[][] due = {{1, 1, 2}, {2, 1, 1}, {3, 0, 1}, {4, 0, 1}, {5, 1, 0}, {6, 0, 0}, {8, 0, 0}};
        for (int[] one : due) {
            Due.is("where, by " + one[0], one[1], x.burnFirst(one[0], 5, false, 0));
            Due.is("how many then, by " + one[0], one[2], x.burnFirst(one[0], 5, false, 1));
        }
        Due.is("asking burns nothing", 3, x.lost(5, false));
    }

    private static void mostWear() {
        Due.sentence("Terms, RENEWED FIRST", "so that WEAR in them is most");
        WhiteLine x = Made.road(8);
        Due.wear(x, "5,5,1,9,1,5,5,1");
        int[][] due = {{1, 10, 0}, {2, 20, 0, 2}, {3, 30, 0, 2, 5}, {4, 32, 0, 2, 4, 6}};
        for (int[] one : due) {
            Due.is("of " + one[0], one[1], x.renewed(one[0], 2, 10));
            for (int place = 0; place < one[0]; place++) {
                Due.is("of " + one[0] + " at place " + place, one[2 + place], x.renewed(one[0], 2, place));
            }
        }
    }

    private static void twos() {
        Due.sentence("Terms, WHO DROVE OVER", "how many such twos");
        WhiteLine x = Made.by(8, "d5(1=1)");
        x.party(0, true, 0);
        x.car(7, 0, 4);
        x.minutes(12);
        Due.is("all are spoilt", 8, x.count(3));
        // Dot i is wet from i + 1 to i + 5: way 0 may set out at 1 to 5, way 1 comes too late for dot 0.
        Due.is("twos", 5, x.who(0));
        Due.is("the first one's minute", 1, x.who(1));
        Due.is("the first one's way", 0, x.who(2));
        // None is spoilt. Way 0 hits dot 7 if it sets out by 1, dot 0 from 1 on, dot 6 from 2 on; way 1 likewise.
        WhiteLine y = Made.by(8, "p7(i=1|i=6);d8(i=0|i=7);d99(1=1)");
        y.party(0, true, 0);
        y.party(1, true, 0);
        Due.is("dots 0, 1, 6, 7", 4, y.minutes(8));
        Due.is("no two fits", 0, y.who(0));
        Due.is("no minute", -2, y.who(1));
        Due.is("no way", -2, y.who(2));
    }

    private static void tellsOtherwise() {
        Due.sentence("Terms", "(but where a call tells otherwise)");
        WhiteLine x = Made.road(8);
        Due.is("check tells -2 where others tell NONE", -2, x.check(9));
        Due.is("and NONE where all is right", WhiteLine.NONE, x.check(0));
    }

    private static void partyWorks() {
        Due.sentence("Promise 7", "A PARTY works or not");
        WhiteLine x = Made.road(8);
        for (int a = 0; a <= 1; a++) {
            Due.is("told to", true, x.party(a, true, 3));
            Due.is("works", 1, x.count(10 + a));
            Due.is("the other one does not", 0, x.count(11 - a));
            Due.is("a minute", 1, x.minutes(1));
            Due.is("told not to", true, x.party(a, false, 3));
            Due.is("does not work", 0, x.count(10 + a));
            Due.is("a minute without", 0, x.minutes(1));
        }
        Made.rowIs("painted by each", x, 4, 103, -2, -2, -2, -2, -2, -2, 103);
    }

    private static void rowsOfADot() {
        Due.sentence("Promise 14", "Of a DOT, what 0 KERB, 1 HEIGHT, 2 WEAR");
        WhiteLine x = Made.road(8);
        Due.kerb(x, "-9,8*6,7");
        Due.height(x, "1,2*6,3");
        Due.wear(x, "4,5*6,6");
        Made.rowIs("kerb", x, 0, -9, 8, 8, 8, 8, 8, 8, 7);
        Made.rowIs("height", x, 1, 1, 2, 2, 2, 2, 2, 2, 3);
        Made.rowIs("wear", x, 2, 4, 5, 5, 5, 5, 5, 5, 6);
    }

    private static void paintedThen() {
        Due.sentence("Promise 13", "what 0 DOTS that are painted then");
        WhiteLine x = Made.by(8, "p2(1=1)");
        x.party(0, true, 0);
        x.minutes(2);
        int[] due = {1, 2, 2, 3, 3, 4, 4, 5, 5, 6, 6, 7, 7, 8, 8};
        for (int n = 1; n <= due.length; n++) {
            Due.is("with the one that is painted already, in " + n, due[n - 1], x.tried(n, 0));
        }
    }

    private static void rainOrNot() {
        Due.sentence("Promise 29", "with rain or not, what 0 where the stretch begins");
        WhiteLine x = Made.by(8, "o9*r(1=1)");
        x.old(6, 7, 50);
        Due.is("rain", 6, x.burnFirst(2, 0, true, 0));
        Due.is("rain: none lost then", 0, x.burnFirst(2, 0, true, 1));
        Due.is("no rain: nobody is lost anywhere", 0, x.burnFirst(2, 0, false, 0));
    }

    private static void lightsFromTheTape() {
        Due.sentence("Promise 26", "LIGHTS by the first 2 n bytes of the tape");
        WhiteLine x = new WhiteLine();
        // The third two would be no such car: it is not asked for.
        Due.feed(x, 0, 1, 4, 1, 3, 9);
        Due.is("two cars, by g 3 and r 0: at 3 and 4", 3, x.lights(2, 0, 13));
        Due.is("the tape is empty then", 0, x.count(7));
    }
}
