/** Promises 7 to 13: parties, cars, cones, dew, burning, and nights gone through and tried. */
public final class NightPromisesTest {
    public static void main(String[] args) {
        partyRefused();
        partyLeaves();
        partyGoesOn();
        partiesMeet();
        partyStops();
        heldOffsets();
        car();
        carsByNumbers();
        carOverWetAndDry();
        carWhilePainting();
        cones();
        conesByNumbers();
        dew();
        burns();
        minutes();
        tried();
        triedChangesNothing();
        dAsItWasAsked();
        Due.end("NightPromisesTest");
    }

    private static WhiteLine by(int dots, String law) {
        WhiteLine x = new WhiteLine();
        x.road(dots);
        if (!law.isEmpty()) {
            Due.is("law " + law, true, Due.law(x, law) > 0);
        }
        return x;
    }

    private static void partyRefused() {
        WhiteLine x = by(8, "");
        int[][] none = {{-1, 0}, {2, 0}, {0, 21}, {0, -21}, {Integer.MIN_VALUE, 0}, {Integer.MAX_VALUE, 0},
            {1, Integer.MIN_VALUE}, {1, Integer.MAX_VALUE}};
        for (int[] call : none) {
            Due.is("7 party(" + call[0] + ", true, " + call[1] + ")", false, x.party(call[0], true, call[1]));
        }
        Due.is("7 refused", 0, x.count(10) + x.count(11));
        Due.is("7 lowest", true, x.party(0, true, -20));
        Due.is("7 highest", true, x.party(1, false, 20));
        Due.is("7 works", 1, x.count(10));
        Due.is("7 works not", 0, x.count(11));
        Due.is("7 its offset", 80, x.count(20));
        Due.is("7 its offset", 120, x.count(21));
    }

    private static void partyLeaves() {
        WhiteLine x = by(8, "p3(1=1);d9(1=1)");
        x.party(0, true, 0);
        x.car(2, 0, 0);
        x.minutes(1);
        Due.is("7 being painted", 0, x.dot(0, 8));
        Due.is("7 and spoilt", 2, x.dot(0, 6));
        Due.is("7 spoilt ones", 1, x.count(3));
        Due.is("7 told not to", true, x.party(0, false, 4));
        Due.is("7 not being painted", -2, x.dot(0, 8));
        Due.is("7 not spoilt", -2, x.dot(0, 6));
        Due.is("7 bare", -2, x.dot(0, 4));
        x.minutes(9);
        Due.is("7 none painted", 0, x.count(2));
        x.party(0, true, 4);
        Due.is("7 from its beginning again", 0, x.minutes(2));
        Due.is("7 with its offset", 1, x.minutes(1));
        Due.is("7 with its offset", 104, x.dot(0, 4));
        x.party(0, false, 4);
        Due.is("7 what is painted stays", 104, x.dot(0, 4));
    }

    private static void partyGoesOn() {
        WhiteLine x = by(8, "p3(1=1)");
        x.party(0, true, 1);
        x.minutes(2);
        x.party(0, true, 6);
        Due.is("7 goes on with that", 0, x.dot(0, 8));
        Due.is("7 one minute was left", 1, x.minutes(1));
        Due.is("7 with the offset told last", 106, x.dot(0, 4));
        x.minutes(1);
        x.party(1, false, 0);
        Due.is("7 the other one goes on", 0, x.dot(1, 8));
    }

    private static void partiesMeet() {
        WhiteLine x = by(9, "");
        Due.kerb(x, "10*9");
        x.party(0, true, 1);
        x.party(1, true, -1);
        Due.is("12 both", 2, x.minutes(1));
        Due.is("12 party 0 rises", 111, x.dot(0, 4));
        Due.is("12 party 1 falls", 109, x.dot(8, 4));
        Due.is("12 and so on", 6, x.minutes(3));
        Due.is("12 the last one, by party 0", 1, x.minutes(1));
        Due.is("12 by party 0", 111, x.dot(4, 4));
        Due.is("12 party 1 stopped", 0, x.count(11));
        Due.is("12 party 0 works still", 1, x.count(10));
        Due.is("12 none", 0, x.minutes(1));
        Due.is("12 then it stops", 0, x.count(10));
    }

    private static void partyStops() {
        WhiteLine x = by(8, "p2(1=1)");
        x.party(0, true, 0);
        x.minutes(16);
        Due.is("7 all painted", 8, x.count(2));
        Due.is("7 works till it looks for a dot", 1, x.count(10));
        x.cones(0);
        x.minutes(1);
        Due.is("7 none is left: it stops, cones or not", 0, x.count(10));
        x.cones(1);
        x.burns(2, 4);
        Due.is("7 it works no more", 0, x.minutes(9));
        x.party(1, true, 0);
        x.minutes(2);
        Due.is("7 from the highest bare one on", 100, x.dot(4, 4));
        Due.is("7 falling", -2, x.dot(3, 4));
        x.party(0, true, 0);
        x.minutes(2);
        Due.is("7 one cone: one of both at a time", 5 + 1 + 1, x.count(2));
    }

    private static void heldOffsets() {
        WhiteLine x = by(8, "");
        Due.kerb(x, "99,-99,80,-80,79,-79,0,0");
        x.party(0, true, 20);
        x.minutes(3);
        x.party(0, true, -20);
        x.minutes(1);
        x.party(0, true, 20);
        x.minutes(1);
        int[] due = {199, 21, 199, 1, 199};
        for (int i = 0; i < due.length; i++) {
            Due.is("12 offset of " + i, due[i], x.dot(i, 4));
        }
        Due.is("13 off the kerb, with the next one", 0 + 20 + 19 + 19 + 20 + 20, x.tried(1, 6));
    }

    private static void car() {
        WhiteLine x = by(8, "");
        int[][] none = {{-1, 0, 0}, {12, 0, 0}, {0, -1, 0}, {0, 2, 0}, {0, 0, -1}, {0, 0, 10000},
            {Integer.MAX_VALUE, 0, 0}, {0, Integer.MIN_VALUE, 0}, {0, 0, Integer.MAX_VALUE}};
        for (int[] call : none) {
            Due.is("8 car(" + call[0] + ", " + call[1] + ", " + call[2] + ")", false, x.car(call[0], call[1], call[2]));
        }
        Due.is("8 refused", -1, x.count(30));
        Due.is("8 told", true, x.car(0, 1, 9999));
        Due.is("8 way", 1, x.count(30));
        Due.is("8 minute", 9999, x.count(50));
        Due.is("8 in place of it", true, x.car(0, 0, 0));
        Due.is("8 way", 0, x.count(30));
        Due.is("8 minute", 0, x.count(50));
        Due.is("8 the others", -1, x.count(31));
        Due.is("8 the last", true, x.car(11, 1, 3));
        Due.is("8 its way", 1, x.count(41));
    }

    private static void carsByNumbers() {
        WhiteLine x = by(8, "d99(1=1)");
        x.party(0, true, 0);
        x.minutes(8);
        x.car(7, 0, 8);
        x.car(3, 1, 8);
        x.car(9, 0, 8);
        x.minutes(1);
        Due.is("8 from dot 0, the lower number first", 7, x.dot(0, 6));
        Due.is("8 from the last one", 3, x.dot(7, 6));
        Due.is("8 one dot each", 2, x.count(3));
        x.minutes(3);
        Due.is("8 at the next dot", 7, x.dot(3, 6));
        Due.is("8 at the next dot", 3, x.dot(4, 6));
        x.minutes(1);
        Due.is("8 spoilt already", 3, x.dot(4, 6));
        Due.is("8 spoilt already", 7, x.dot(3, 6));
        Due.is("8 all of them", 8, x.count(3));
        x.car(0, 0, 13);
        x.minutes(20);
        Due.is("8 by it, if it is not yet", 7, x.dot(0, 6));
    }

    private static void carOverWetAndDry() {
        WhiteLine x = by(8, "d2(1=1)");
        x.party(0, true, 0);
        x.car(0, 0, 1);
        x.car(1, 1, 1);
        x.minutes(9);
        Due.is("8 a minute behind the party", 8, x.count(3));
        WhiteLine y = by(8, "d2(1=1)");
        y.party(0, true, 0);
        y.car(0, 0, 3);
        y.minutes(20);
        Due.is("8 d minutes behind its end it is dry", 0, y.count(3));
        WhiteLine z = by(8, "d2(1=1)");
        z.party(0, true, 0);
        z.car(0, 0, 2);
        z.minutes(20);
        Due.is("8 one less: wet", 8, z.count(3));
        WhiteLine w = by(8, "");
        w.party(0, true, 0);
        w.car(4, 0, 0);
        w.minutes(20);
        Due.is("8 in the minute in which it is painted: wet by any d", 8, w.count(3));
        Due.is("8 by it", 4, w.dot(7, 6));
        WhiteLine v = by(8, "");
        v.party(0, true, 0);
        v.car(4, 0, 1);
        v.minutes(20);
        Due.is("8 then dry", 0, v.count(3));
    }

    private static void carWhilePainting() {
        WhiteLine x = by(8, "p4(1=1)");
        x.party(0, true, 0);
        x.car(6, 0, 2);
        x.minutes(2);
        Due.is("8 not yet", -2, x.dot(0, 6));
        x.minutes(1);
        Due.is("8 being painted", 6, x.dot(0, 6));
        x.minutes(1);
        Due.is("8 spoilt as it is painted", 6, x.dot(0, 6));
        Due.is("8 painted", 100, x.dot(0, 4));
        x.minutes(1);
        Due.is("8 none is there where it is bare", 1, x.count(3));
    }

    private static void cones() {
        WhiteLine x = by(8, "d3(1=1)");
        for (int n : new int[] {-1, 65, Integer.MIN_VALUE, Integer.MAX_VALUE}) {
            Due.is("9 cones(" + n + ")", false, x.cones(n));
        }
        Due.is("9 as before", 64, x.count(4));
        Due.is("9 none", true, x.cones(0));
        x.party(0, true, 0);
        Due.is("9 none begins", 0, x.minutes(5));
        Due.is("9 but works", 1, x.count(10));
        Due.is("9 the most", true, x.cones(64));
        x.cones(1);
        Due.is("9 one", 1, x.minutes(1));
        Due.is("9 it is wet for three minutes", 0, x.minutes(3));
        Due.is("9 then the next", 1, x.minutes(1));
        x.cones(2);
        Due.is("9 two", 1, x.minutes(1));
        Due.is("9 both wet", 0, x.minutes(2));
        Due.is("9 one is dry", 1, x.minutes(1));
    }

    private static void conesByNumbers() {
        WhiteLine x = by(8, "p2(1=1)");
        x.cones(1);
        x.party(0, true, 0);
        x.party(1, true, 0);
        x.minutes(1);
        Due.is("9 party 0 begins", 0, x.dot(0, 8));
        Due.is("9 party 1 does not", -2, x.dot(7, 8));
        x.cones(2);
        x.minutes(1);
        Due.is("9 now it does", 1, x.dot(7, 8));
    }

    private static void dew() {
        WhiteLine x = by(8, "p2(a=1);d3(1=1)");
        for (int minute : new int[] {-2, 10000, Integer.MIN_VALUE, Integer.MAX_VALUE}) {
            Due.is("10 dew(" + minute + ")", false, x.dew(minute));
        }
        Due.is("10 none", -2, x.count(5));
        Due.is("10 the last", true, x.dew(9999));
        Due.is("10 the last", 9999, x.count(5));
        Due.is("10 none", true, x.dew(-1));
        Due.is("10 none", -2, x.count(5));
        x.party(0, true, 0);
        x.party(1, true, 0);
        x.dew(4);
        x.car(1, 0, 4);
        x.minutes(4);
        Due.is("10 not yet", 0, x.count(3));
        x.minutes(1);
        int[] due = {-2, 12, 12, 12, 12, -2, 12, 12};
        for (int i = 0; i < due.length; i++) {
            Due.is("10 by what " + i + " is spoilt", due[i], x.dot(i, 6));
        }
        Due.is("10 being painted is not wet", 1, x.dot(5, 8));
        x.minutes(5);
        Due.is("10 in that minute alone", 6, x.count(3));
        WhiteLine y = by(8, "");
        y.party(0, true, 0);
        y.car(3, 0, 0);
        y.dew(0);
        y.minutes(1);
        Due.is("10 the car was first", 3, y.dot(0, 6));
        y.dew(2);
        y.car(3, 0, 9999);
        y.minutes(3);
        Due.is("10 painted in that minute, by any d", 12, y.dot(2, 6));
        Due.is("10 the one ahead is dry", -2, y.dot(1, 6));
        WhiteLine z = by(8, "p9(r=1);d9(1=1)");
        z.party(0, true, 0);
        z.party(1, true, 0);
        z.dew(3);
        z.minutes(4);
        Due.is("10 from the first to the last", 8, z.count(3));
        Due.is("10 the first", 12, z.dot(0, 6));
    }

    private static void burns() {
        WhiteLine x = by(8, "p2(1=1);d9(1=1)");
        int[][] none = {{-1, 3}, {0, 8}, {3, 2}, {8, 8}, {Integer.MIN_VALUE, 0}, {0, Integer.MAX_VALUE}};
        x.party(0, true, 0);
        x.party(1, true, 0);
        x.car(0, 0, 4);
        x.minutes(5);
        for (int[] call : none) {
            Due.is("11 burns(" + call[0] + ", " + call[1] + ")", -1, x.burns(call[0], call[1]));
        }
        Due.is("11 painted", 4, x.count(2));
        Due.is("11 spoilt", 1, x.count(3));
        Due.is("11 being painted", 0, x.dot(2, 8));
        Due.is("11 burnt", 2, x.burns(0, 2));
        Due.is("11 being painted no more", -2, x.dot(2, 8));
        Due.is("11 but works", 1, x.count(10));
        Due.is("11 the other goes on", 1, x.dot(5, 8));
        Due.is("11 left", 2, x.count(2));
        Due.is("11 not spoilt", 0, x.count(3));
        int[] bare = {0, 0, 0, -2, -2, -2, -2, 0, -2};
        for (int what = 0; what < 9; what++) {
            Due.is("11 dot(0, " + what + ")", bare[what], x.dot(0, what));
        }
        Due.is("11 party 1's", 1, x.minutes(1));
        Due.is("11 party 0 from the lowest on", 0, x.dot(0, 8));
        Due.is("11 all", 3, x.burns(0, 7));
        Due.is("11 none", 0, x.burns(0, 7));
        Due.is("11 the last one alone", 0, x.burns(7, 7));
    }

    private static void minutes() {
        WhiteLine x = by(8, "p3(1=1)");
        for (int n : new int[] {0, -1, 601, Integer.MIN_VALUE, Integer.MAX_VALUE}) {
            Due.is("12 minutes(" + n + ")", -1, x.minutes(n));
        }
        Due.is("12 none went by", 0, x.count(1));
        x.party(0, true, 0);
        Due.is("12 painted", 2, x.minutes(8));
        Due.is("12 the minute", 8, x.count(1));
        Due.is("12 the rest", 6, x.minutes(600));
        Due.is("12 the minute", 608, x.count(1));
        for (int k = 0; k < 15; k++) {
            x.minutes(600);
        }
        x.burns(0, 7);
        Due.is("12 the minute", 9608, x.count(1));
        x.minutes(389);
        x.party(0, true, 0);
        Due.is("12 two to go", 9997, x.count(1));
        Due.is("12 as many as can", 0, x.tried(600, 0));
        Due.is("12 as many as can", 0, x.minutes(600));
        Due.is("12 the last minute", 9999, x.count(1));
        Due.is("12 none goes by", 0, x.minutes(5));
        Due.is("12 the last minute", 9999, x.count(1));
        Due.is("12 being painted for ever", 0, x.dot(0, 8));
        Due.is("13 tried then", 0, x.tried(9, 4));
        WhiteLine y = by(8, "d4(1=1)");
        for (int k = 0; k < 16; k++) {
            y.minutes(600);
        }
        y.minutes(398);
        y.dew(9998);
        y.car(0, 0, 9998);
        y.party(0, true, 0);
        Due.is("12 the last one that goes by", 1, y.minutes(2));
        Due.is("12 its end", 9999, y.dot(0, 5));
        Due.is("12 spoilt in it", 0, y.dot(0, 6));
        y.dew(9999);
        y.minutes(1);
        Due.is("12 wet for ever", 1, y.dot(0, 7));
    }

    private static void tried() {
        WhiteLine x = by(8, "p2(1=1);d3(1=1)");
        int[][] none = {{0, 0}, {-1, 0}, {601, 0}, {1, -1}, {1, 7}, {Integer.MIN_VALUE, 0}, {Integer.MAX_VALUE, 0},
            {1, Integer.MIN_VALUE}, {1, Integer.MAX_VALUE}};
        for (int[] call : none) {
            Due.is("13 tried(" + call[0] + ", " + call[1] + ")", -1, x.tried(call[0], call[1]));
        }
        x.party(0, true, 5);
        x.party(1, true, -2);
        x.car(0, 0, 2);
        int[][] due = {{1, 0, 0, 0, 0, 0, 7, 0}, {2, 2, 0, 2, 0, -2, -2, 7}, {3, 2, 1, 2, 0, 1, 6, 7},
            {4, 4, 2, 4, 0, -2, -2, 14}, {8, 8, 5, 4, 0, -2, -2, 28}, {10, 8, 5, 2, 0, -2, -2, 28},
            {11, 8, 5, 0, 1, -2, -2, 28}, {600, 8, 5, 0, 1, -2, -2, 28}};
        x.car(1, 1, 7);
        for (int[] one : due) {
            for (int what = 0; what < 7; what++) {
                Due.is("13 tried(" + one[0] + ", " + what + ")", one[what + 1], x.tried(one[0], what));
            }
        }
        Due.is("13 wet at 10", 2, x.tried(10, 2));
        Due.is("13 dry at 11", 0, x.tried(11, 2));
        Due.is("13 not all painted", 0, x.tried(7, 3));
    }

    private static void triedChangesNothing() {
        WhiteLine x = by(10, "p2(1=1);d5(1=1)");
        x.party(0, true, 3);
        x.party(1, true, -3);
        x.car(0, 0, 3);
        x.dew(5);
        x.minutes(3);
        int[] before = new int[170];
        int[] behind = new int[170];
        all(x, before);
        x.tried(600, 3);
        x.tried(2, 0);
        all(x, behind);
        for (int k = 0; k < before.length; k++) {
            Due.is("13 as it was", before[k], behind[k]);
        }
    }

    private static void all(WhiteLine x, int[] answers) {
        for (int k = 0; k < 70; k++) {
            answers[k] = x.count(k);
        }
        for (int k = 0; k < 100; k++) {
            answers[70 + k] = x.dot(k / 10, k % 10);
        }
    }

    private static void dAsItWasAsked() {
        WhiteLine x = by(8, "d5+k(1=1)");
        Due.kerb(x, "3*8");
        x.party(0, true, 0);
        x.minutes(1);
        Due.law(x, "d0(1=1)");
        Due.kerb(x, "0*8");
        x.party(0, false, 0);
        x.minutes(7);
        Due.is("12 wet by d as it was asked then", 1, x.dot(0, 7));
        x.minutes(1);
        Due.is("12 dry", 0, x.dot(0, 7));
    }
}
