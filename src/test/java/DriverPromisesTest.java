/** Promises 26 to 29, 31 and 32: lights, beliefs, what to burn and renew first, who drove over it. */
public final class DriverPromisesTest {
    public static void main(String[] args) {
        lights();
        lightsBest();
        lightsRefused();
        believed();
        believedSpoilt();
        lost();
        burnFirst();
        renewed();
        renewedRefused();
        who();
        whoOthers();
        whoSparesNone();
        whoSparesSome();
        Due.end("DriverPromisesTest");
    }

    private static int lights(int r, int what, int... cars) {
        WhiteLine x = new WhiteLine();
        Due.feed(x, cars);
        int answer = x.lights(cars.length / 2, r, what);
        Due.is("26 empty then", answer == -1 ? 20 : 0, x.count(7));
        return answer;
    }

    private static void lights() {
        Due.is("26 at once", 0, lights(0, 11, 0, 0));
        Due.is("26 the other end waits for its green", 1, lights(0, 11, 0, 1));
        Due.is("26 and for the red ahead of it", 1 + 9, lights(9, 11, 0, 1));
        Due.is("26 by 20", 20, lights(0, 30, 0, 1));
        Due.is("26 by 20, red 9", 29, lights(9, 30, 0, 1));
        Due.is("26 red behind its own green too", 2 * (1 + 2) - 1, lights(2, 11, 1, 0));
        Due.is("26 one a minute", 0 + 1 + 2, lights(0, 13, 0, 0, 0, 0, 0, 0));
        Due.is("26 the fourth waits for the next round", 0 + 1 + 2 + 6, lights(0, 13, 0, 0, 0, 0, 0, 0, 0, 0));
        Due.is("26 with red", 0 + 1 + 2 + 8, lights(1, 13, 0, 0, 0, 0, 0, 0, 0, 0));
        Due.is("26 by turns", 0 + 1 + 1, lights(0, 11, 0, 0, 0, 1, 1, 0));
        Due.is("26 late ones", 0, lights(0, 11, 255, 1));
        Due.is("26 late ones", 1, lights(0, 11, 255, 0));
        Due.is("26 as they came", (4 - 2) + (5 - 3), lights(0, 12, 2, 0, 3, 0));
    }

    private static void lightsBest() {
        Due.is("26 like ones: the least", 1, lights(0, 1, 0, 0));
        Due.is("26 fewest", 0, lights(0, 0, 0, 0));
        // Ten at once from end 0: the longest green that they need.
        int[] ten = new int[20];
        Due.is("26 ten at once", 45, lights(3, 0, ten));
        Due.is("26 ten at once", 10, lights(3, 1, ten));
        int[] twenty = new int[40];
        Due.is("26 twenty at once", 190, lights(9, 0, twenty));
        Due.is("26 twenty at once", 20, lights(9, 1, twenty));
        Due.is("26 two at once", 2, lights(0, 1, 0, 0, 0, 0));
        Due.is("26 two at once", 1, lights(0, 0, 0, 0, 0, 0));
        // By 1 and red 1: end 0 at 0, 4, 8 and end 1 at 2, 6, 10; by 2: 0, 1, 6, 7 and 3, 4, 9, 10.
        int[] five = {0, 0, 1, 1, 2, 0, 5, 1, 5, 1};
        Due.is("26 by 1", 0 + 1 + 2 + 1 + 5, lights(1, 11, five));
        Due.is("26 by 2", 0 + 2 + 4 + 4 + 5, lights(1, 12, five));
        // By 3: 0, 1, 2, 8 and 4, 5, 6.
        Due.is("26 by 3", 0 + 3 + 0 + 0 + 1, lights(1, 13, five));
        Due.is("26 by 4", 0 + 4 + 0 + 1 + 2, lights(1, 14, five));
        Due.is("26 the best of them", 3, lights(1, 1, five));
        Due.is("26 by it", 4, lights(1, 0, five));
        Due.is("26 an end of 2", -2, lights(0, 0, 0, 2));
        Due.is("26 an end of 255", -2, lights(0, 0, 0, 0, 0, 255));
        Due.is("26 minutes that fall", -2, lights(0, 0, 5, 0, 4, 0));
        Due.is("26 minutes alike", 0, lights(0, 11, 4, 0, 5, 1));
    }

    private static void lightsRefused() {
        WhiteLine x = new WhiteLine();
        Due.is("26 it has none", -1, x.lights(1, 0, 0));
        x.feed(0, 0, 0, 0, 0);
        int[][] none = {{0, 0, 0}, {21, 0, 0}, {11, 0, 0}, {1, -1, 0}, {1, 10, 0}, {1, 0, -1}, {1, 0, 2}, {1, 0, 10},
            {1, 0, 31}, {Integer.MAX_VALUE, 0, 0}, {Integer.MIN_VALUE, 0, 0}, {1 << 30, 0, 0}, {1, Integer.MIN_VALUE, 0},
            {1, 0, Integer.MAX_VALUE}};
        for (int[] c : none) {
            Due.is("26 lights(" + c[0] + ", " + c[1] + ", " + c[2] + ")", -1, x.lights(c[0], c[1], c[2]));
            Due.is("26 the tape stays", 20, x.count(7));
        }
        Due.is("26 ten", 45, x.lights(10, 0, 20));
        for (int k = 0; k < 3; k++) {
            x.feed(0, 0, 0, 0, 0);
        }
        Due.is("26 more than 20", -1, x.lights(21, 0, 0));
    }

    private static WhiteLine by(String law) {
        WhiteLine x = new WhiteLine();
        x.road(8);
        Due.is("law " + law, true, Due.law(x, law) > 0);
        return x;
    }

    private static void believed() {
        WhiteLine x = by("o10(1=1);l10+i-4(1=1)");
        x.old(0, 5, 0);
        x.party(1, true, 0);
        x.minutes(7);
        int[] due = {1, 1, 1, 1, 2, 2, 2, 2};
        for (int i = 0; i < 8; i++) {
            Due.is("27 believed(" + i + ")", due[i], x.believed(i, false));
        }
        Due.law(x, "l10(r=0);o5(r=1)");
        Due.is("27 the old one is 0 plain", 2, x.believed(3, false));
        Due.is("27 the line is 0 plain", 1, x.believed(3, true));
        Due.is("27 no line, the old one 0 plain", 0, x.believed(0, false));
        Due.is("27 no old one, the line 0 plain", 0, x.believed(7, true));
        Due.law(x, "p1(1=1)");
        Due.is("27 both 0 plain", 0, x.believed(3, false));
        x.road(8);
        Due.law(x, "o9(1=1);l9(1=1)");
        Due.is("27 neither is there", 0, x.believed(3, false));
        for (int i : new int[] {-1, 8, Integer.MIN_VALUE, Integer.MAX_VALUE}) {
            Due.is("27 believed(" + i + ")", -1, x.believed(i, true));
        }
    }

    private static void believedSpoilt() {
        WhiteLine x = by("d9(1=1)");
        x.party(0, true, 0);
        x.old(0, 7, 0);
        x.car(0, 0, 0);
        x.minutes(3);
        Due.is("27 spoilt", 3, x.count(3));
        Object[][] due = {{"o10(1=1);l20(1=1)", 1}, {"o10(1=1);l21(1=1)", 1}, {"o10(1=1);l22(1=1)", 2},
            {"o10(1=1);l10(1=1)", 1}, {"l1(1=1)", 0}, {"l2(1=1)", 2}, {"l3(1=1)", 2}};
        for (Object[] one : due) {
            Due.law(x, (String) one[0]);
            Due.is("27 spoilt, by " + one[0], (Integer) one[1], x.believed(0, false));
        }
        Due.law(x, "p4(1=1);o10(1=1);l99(1=1)");
        x.old(3, 3, -100);
        x.car(1, 0, 0);
        x.minutes(2);
        Due.is("27 being painted and spoilt is not there", 0, x.believed(3, false));
    }

    private static void lost() {
        WhiteLine x = by("o10(i<6);l20(1=1);l0(1=1)");
        Due.kerb(x, "0,1,2,3,4,5,6,7");
        x.old(0, 7, 0);
        int[] due = {5, 4, 3, 2, 1, 0};
        for (int by = 0; by < due.length; by++) {
            Due.is("28 lost(" + by + ")", due[by], x.lost(by, false));
        }
        x.party(0, true, 20);
        x.minutes(2);
        Due.is("28 the line is believed there", 4, x.lost(0, false));
        Due.law(x, "o10(1=1);l5(1=1)");
        Due.is("28 off the line now", 2, x.lost(19, false));
        Due.is("28 off the line now", 1, x.lost(20, false));
        Due.law(x, "o10(r=1)");
        Due.is("28 no rain", 0, x.lost(0, false));
        Due.is("28 rain", 8, x.lost(0, true));
        x.old(5, 5, -100);
        Due.is("28 none there", 7, x.lost(0, true));
        Due.is("28 the most", 0, x.lost(99, true));
        x.old(0, 0, -99);
        Due.is("28 the most", 1, x.lost(99, true));
        for (int by : new int[] {-1, 100, Integer.MIN_VALUE, Integer.MAX_VALUE}) {
            Due.is("28 lost(" + by + ")", -1, x.lost(by, true));
        }
    }

    private static void burnFirst() {
        WhiteLine x = by("o10(1=1)");
        Due.kerb(x, "9,0,9,0,0,9,9,0");
        x.old(0, 7, 0);
        int[][] due = {{1, 0, 3}, {2, 5, 2}, {3, 0, 2}, {4, 0, 2}, {5, 2, 1}, {6, 0, 1}, {7, 0, 0}, {8, 0, 0}};
        for (int[] one : due) {
            Due.is("29 burnFirst(" + one[0] + ", 8) begins", one[1], x.burnFirst(one[0], 8, false, 0));
            Due.is("29 burnFirst(" + one[0] + ", 8) lost", one[2], x.burnFirst(one[0], 8, false, 1));
        }
        x.old(0, 5, -100);
        Due.is("29 the last stretch", 6, x.burnFirst(1, 0, true, 0));
        Due.is("29 none is lost then", 0, x.burnFirst(1, 0, true, 1));
        x.old(0, 7, 0);
        x.old(1, 6, -100);
        Due.kerb(x, "0*7,9");
        Due.is("29 the very last", 7, x.burnFirst(1, 0, true, 0));
        Due.kerb(x, "0,9,0*6");
        x.old(0, 7, 0);
        Due.is("29 the second", 1, x.burnFirst(1, 0, true, 0));
        Due.kerb(x, "9,0,9,0,0,9,9,0");
        Due.is("29 none lost: the lowest", 0, x.burnFirst(3, 9, true, 0));
        Due.is("29 none lost", 0, x.burnFirst(3, 9, true, 1));
        Due.is("29 changes nothing", 4, x.lost(8, false));
        int[][] none = {{0, 0, 0}, {9, 0, 0}, {1, -1, 0}, {1, 100, 0}, {1, 0, -1}, {1, 0, 2},
            {Integer.MIN_VALUE, 0, 0}, {Integer.MAX_VALUE, 0, 0}, {1, Integer.MAX_VALUE, 0}, {1, 0, Integer.MIN_VALUE}};
        for (int[] c : none) {
            Due.is("29 burnFirst(" + c[0] + ", " + c[1] + ", " + c[2] + ")", -1, x.burnFirst(c[0], c[1], true, c[2]));
        }
        Due.law(x, "o10(r=1)");
        Due.is("29 without rain", 0, x.burnFirst(1, 8, false, 1));
        Due.is("29 with rain", 3, x.burnFirst(1, 8, true, 1));
    }

    private static void renewed() {
        WhiteLine x = by("p1(1=1)");
        Due.wear(x, "1,9,2,8,3,7,4,6");
        int[][] due = {{1, 1, 9, 1}, {1, 2, 11, 1}, {1, 3, 19, 1}, {2, 1, 17, 1, 3}, {4, 1, 30, 1, 3, 5, 7},
            {2, 4, 40, 0, 4}, {4, 2, 40, 0, 2, 4, 6}, {2, 3, 19 + 17, 1, 5}, {1, 8, 40, 0}, {3, 2, 33, 1, 3, 5}};
        for (int[] one : due) {
            Due.is("31 wear in " + one[0] + " of " + one[1], one[2], x.renewed(one[0], one[1], 10));
            for (int k = 0; k < one[0]; k++) {
                Due.is("31 the " + k + "th of " + one[0] + " of " + one[1], one[3 + k], x.renewed(one[0], one[1], k));
            }
        }
        Due.wear(x, "0*8");
        Due.is("31 like ones: the least", 0, x.renewed(2, 2, 0));
        Due.is("31 like ones: the least", 2, x.renewed(2, 2, 1));
        Due.wear(x, "5,1,5,1,5,1,5,1");
        Due.is("31 like ones: the least", 0, x.renewed(2, 1, 0));
        Due.is("31 like ones: the least", 2, x.renewed(2, 1, 1));
        x.road(64);
        Due.wear(x, "0*48,9*16");
        Due.is("31 the last", 48, x.renewed(1, 16, 0));
        Due.is("31 all", 16 * 9, x.renewed(4, 16, 10));
        Due.is("31 all", 48, x.renewed(4, 16, 3));
    }

    private static void renewedRefused() {
        WhiteLine x = by("p1(1=1)");
        int[][] none = {{0, 1, 10}, {5, 1, 10}, {1, 0, 10}, {1, 17, 10}, {1, 1, -1}, {1, 1, 1}, {4, 1, 4}, {4, 1, 9},
            {4, 1, 11}, {Integer.MIN_VALUE, 1, 10}, {1, Integer.MAX_VALUE, 10}, {1, 1, Integer.MAX_VALUE},
            {1, 16, 1}, {4, 16, 4}};
        for (int[] c : none) {
            Due.is("31 renewed(" + c[0] + ", " + c[1] + ", " + c[2] + ")", -1, x.renewed(c[0], c[1], c[2]));
        }
        int[][] noRoom = {{1, 9, 10}, {1, 9, 0}, {3, 3, 10}, {4, 3, 3}, {2, 5, 1}, {4, 16, 10}};
        for (int[] c : noRoom) {
            Due.is("31 renewed(" + c[0] + ", " + c[1] + ", " + c[2] + ")", -2, x.renewed(c[0], c[1], c[2]));
        }
    }

    private static void whoIs(String of, WhiteLine x, int twos, int minute, int way) {
        Due.is("32 twos " + of, twos, x.who(0));
        Due.is("32 minute " + of, minute, x.who(1));
        Due.is("32 way " + of, way, x.who(2));
    }

    private static void who() {
        WhiteLine x = by("d3(1=1)");
        x.party(0, true, 0);
        x.car(5, 0, 2);
        x.minutes(4);
        x.party(0, false, 0);
        x.minutes(4);
        // Dot i was painted at i + 1: wet to one who sets out at 1, 2 or 3.
        whoIs("one way", x, 3, 1, 0);
        WhiteLine y = by("d3(1=1)");
        y.party(1, true, 0);
        y.car(5, 1, 3);
        y.minutes(4);
        y.party(1, false, 0);
        y.minutes(4);
        whoIs("the other way", y, 3, 1, 1);
        for (int what : new int[] {-1, 3, Integer.MIN_VALUE, Integer.MAX_VALUE}) {
            Due.is("32 who(" + what + ")", -1, y.who(what));
        }
    }

    private static void whoOthers() {
        WhiteLine x = by("d30(1=1)");
        x.party(0, true, 0);
        x.minutes(1);
        x.party(0, false, 0);
        x.car(0, 0, 4);
        x.minutes(3);
        // Wet from 1 to 30: at 0 alone a car would not have hit it, and from the last one never.
        whoIs("none was hit", x, 1, 0, 0);
        x.minutes(1);
        Due.is("32 hit", 0, x.dot(0, 6));
        // At 1 to 5 from dot 0; from the last one at 0 to 5: it is there 7 minutes later.
        whoIs("it was", x, 5 + 6, 0, 1);
        x.minutes(20);
        // THE MINUTE is 25: 1 to 25, and 0 to 23.
        whoIs("at 25", x, 25 + 24, 0, 1);
        x.minutes(10);
        whoIs("at 35", x, 30 + 24, 0, 1);
        x.dew(35);
        x.party(1, true, 0);
        x.minutes(1);
        x.party(1, false, 0);
        Due.is("32 by dew", 12, x.dot(7, 6));
        // Dot 7, wet from 36 to 65, must be spared: from dot 0 it is passed at 8 to 37.
        whoIs("dew is no car", x, 28 + 24, 0, 1);
    }

    private static void whoSparesSome() {
        WhiteLine x = by("d1(i=2);d2(i=1);d4(1=1)");
        x.party(0, true, 0);
        x.minutes(8);
        x.car(11, 1, 9);
        x.minutes(11);
        // Dot i was painted at i + 1, and wet for 4: dot 7 is hit at 9, dot 6 at 10, dot 5 is dry at 11.
        Due.is("32 by car 11", 11, x.dot(7, 6));
        Due.is("32 by car 11", 11, x.dot(6, 6));
        Due.is("32 no other", 2, x.count(3));
        // From the last dot, 8 to 11 hit dot 7, 6 to 9 dot 6, 4 to 7 dot 5, 2 to 5 dot 4, 0 to 3 dot 3, none
        // the others; from dot 0, 1 to 4 hit nearly all of them.
        whoIs("of two that were hit", x, 2, 8, 1);
        x.burns(6, 6);
        whoIs("of one that was hit", x, 4, 8, 1);
        x.burns(7, 7);
        whoIs("of none that was hit", x, (20 - 4) + (20 - 8), 0, 0);
        x.burns(3, 5);
        x.burns(0, 0);
        // Left are dot 1, hit from dot 0 by 1 and 2, and dot 2, by 1.
        whoIs("of none that was hit", x, (20 - 2) + 20, 0, 0);
        x.burns(1, 1);
        whoIs("of none that was hit", x, (20 - 1) + 20, 0, 0);
    }

    private static void whoSparesNone() {
        WhiteLine x = by("p1(1=1)");
        whoIs("all is bare: a car that hits none", x, 2, 0, 0);
        x.minutes(3);
        whoIs("all is bare, to THE MINUTE", x, 8, 0, 0);
        x.party(0, true, 0);
        x.car(0, 0, 3);
        x.minutes(1);
        Due.is("32 hit while it was painted, by no d", 0, x.dot(0, 6));
        whoIs("none could have", x, 0, -2, -2);
        WhiteLine y = by("p3(1=1);d2(1=1)");
        y.party(0, true, 0);
        y.car(0, 0, 1);
        y.minutes(2);
        Due.is("32 spoilt, not painted", 1, y.count(3));
        whoIs("of those that are painted", y, 6, 0, 0);
        y.minutes(1);
        // Painted at 3, wet at 3 and 4: the time before is not looked at; way 1 would be there at 7.
        whoIs("while it was being painted is not looked at", y, 1, 3, 0);
    }
}
