/** Promises 1 to 5, 14 and 33 to 36: the road, its rows, the tape, what is kept and counted. */
public final class RoadPromisesTest {
    public static void main(String[] args) {
        newObject();
        road();
        rowsThatStand();
        rowFaults();
        rowRefused();
        old();
        feed();
        dot();
        keepAndUndo();
        undoBringsAllBack();
        check();
        count();
        Due.end("RoadPromisesTest");
    }

    private static void newObject() {
        WhiteLine x = new WhiteLine();
        int[] due = {16, 0, 0, 0, 64, -2, 0, 0};
        for (int what = 0; what < due.length; what++) {
            Due.is("1 count(" + what + ")", due[what], x.count(what));
        }
        for (int a = 0; a < 2; a++) {
            Due.is("1 works", 0, x.count(10 + a));
            Due.is("1 offset", 100, x.count(20 + a));
        }
        for (int i = 0; i < 12; i++) {
            Due.is("1 car's way", -1, x.count(30 + i));
            Due.is("1 car's minute", -1, x.count(50 + i));
        }
        int[] bare = {0, 0, 0, -2, -2, -2, -2, 0, -2};
        for (int i = 0; i < 16; i++) {
            for (int what = 0; what < 9; what++) {
                Due.is("1 dot(" + i + ", " + what + ")", bare[what], x.dot(i, what));
            }
        }
        Due.is("1 undo", false, x.undo());
    }

    private static void road() {
        WhiteLine x = new WhiteLine();
        for (int n : new int[] {7, 65, 0, -1, -8, Integer.MIN_VALUE, Integer.MAX_VALUE}) {
            Due.is("2 road(" + n + ")", false, x.road(n));
        }
        Due.is("2 refused: as before", 16, x.count(0));
        Due.is("2 the most", true, x.road(64));
        Due.is("2 its last dot", 0, x.dot(63, 0));
        Due.is("2 none behind it", -1, x.dot(64, 0));
        Due.is("2 the fewest", true, x.road(8));
        Due.law(x, "p2(1=1);d9(1=1)");
        Due.kerb(x, "5*8");
        Due.height(x, "6*8");
        Due.wear(x, "7*8");
        x.old(0, 7, 9);
        x.party(0, true, 3);
        x.party(1, true, -4);
        x.car(4, 1, 2);
        x.cones(33);
        x.dew(77);
        x.minutes(3);
        Due.feed(x, "abc");
        Due.is("2 painted before", 2, x.count(2));
        Due.is("2 spoilt before", 1, x.count(3));
        Due.is("2 in place of it", true, x.road(9));
        int[] bare = {0, 0, 0, -2, -2, -2, -2, 0, -2};
        for (int i = 0; i < 9; i++) {
            for (int what = 0; what < 9; what++) {
                Due.is("2 dot(" + i + ", " + what + ") anew", bare[what], x.dot(i, what));
            }
        }
        int[] due = {9, 3, 0, 0, 33, 77, 2, 20};
        for (int what = 0; what < due.length; what++) {
            Due.is("2 count(" + what + ")", due[what], x.count(what));
        }
        Due.is("2 party 0 does not work", 0, x.count(10));
        Due.is("2 party 1 does not work", 0, x.count(11));
        Due.is("2 car as it was", 1, x.count(34));
        Due.is("2 car as it was", 2, x.count(54));
        Due.is("2 none works", 0, x.minutes(20));
    }

    private static void rowsThatStand() {
        WhiteLine x = new WhiteLine();
        x.road(8);
        Due.is("3 kerb", 36, Due.kerb(x, "1,-2,3,-4,5,-6,7,-8"));
        for (int i = 0; i < 8; i++) {
            Due.is("3 dot(" + i + ", 0)", i % 2 == 0 ? i + 1 : -i - 1, x.dot(i, 0));
        }
        Due.is("3 the tape is empty then", 0, x.count(7));
        Due.is("3 times", 4 * 12 + 3 * 99, Due.height(x, "12*4,99*03,0"));
        Due.is("3 dot(3, 1)", 12, x.dot(3, 1));
        Due.is("3 dot(4, 1)", 99, x.dot(4, 1));
        Due.is("3 dot(7, 1)", 0, x.dot(7, 1));
        Due.is("3 a 0 ahead", 16, Due.wear(x, "02*8"));
        Due.is("3 a 0 behind -", 8, Due.kerb(x, "-01*8"));
        Due.is("3 dot(7, 0)", -1, x.dot(7, 0));
        Due.is("3 0 twice", 0, Due.kerb(x, "00*8"));
        x.road(64);
        Due.is("3 64 times", 64 * 99, Due.kerb(x, "-99*64"));
        Due.is("3 the last one", -99, x.dot(63, 0));
        Due.law(x, "p1(1=1)");
        x.party(0, true, 1);
        x.minutes(1);
        Due.is("3 painted by the kerb", 100 - 98, x.dot(0, 4));
        Due.kerb(x, "0*64");
        Due.is("3 the line stays", 100 - 98, x.dot(0, 4));
    }

    private static void rowFaults() {
        fault("x", 0, -1000);
        fault(",", 0, -1000);
        fault("-", 0, -1001);
        fault("--1*8", 0, -1001);
        fault("-1*8", 1, -1000);
        fault("-1*8", 2, -1000);
        fault("-0*8", 0, -1001);
        fault("-00*8", 0, -1001);
        fault("-0x", 0, -1001);
        fault("123*8", 0, -1002);
        fault("1 *8", 0, -1001);
        fault("1*", 0, -1002);
        fault("1*x", 0, -1002);
        fault("1*-2", 0, -1002);
        fault("1*1", 0, -3002);
        fault("1*1x", 0, -3002);
        fault("1*0", 1, -3002);
        fault("1*00", 1, -3002);
        fault("1*65", 2, -3002);
        fault("1*99", 2, -3002);
        fault("1*641", 2, -6000);
        fault("1*9", 2, -6000);
        fault("1*9*", 2, -6000);
        fault("1*7", 2, -1003);
        fault("1*7,", 2, -1004);
        fault("1*8,", 2, -1004);
        fault("1*8,x", 2, -1004);
        fault("1*8x", 2, -1003);
        fault("1*7*2", 2, -1003);
        fault("1*8,2", 2, -6004);
        fault("1*8,2x", 2, -6004);
        fault("1*8,2*", 2, -1006);
        fault("1*8,2*1", 2, -3006);
        fault("1*8,-0", 0, -1005);
        fault("1*7,1*2", 2, -6004);
        fault("1,2,3,4,5,6,7,-8,9", 0, -6017);
        fault("1,2,3,4,5,6,7", 0, -1013);
        fault("1\u00ff", 0, -1001);
    }

    private static void fault(String text, int kind, int due) {
        WhiteLine x = new WhiteLine();
        x.road(8);
        String before = kind == 0 ? "-3*8" : "3*8";
        x.row(kind, Due.feed(x, before));
        int n = Due.feed(x, text);
        Due.is("3 row(" + kind + ") by '" + text + "'", due, x.row(kind, n));
        Due.is("3 the tape is empty behind '" + text + "'", 0, x.count(7));
        for (int i = 0; i < 8; i++) {
            Due.is("3 the one before stays", kind == 0 ? -3 : 3, x.dot(i, kind));
        }
    }

    private static void rowRefused() {
        WhiteLine x = new WhiteLine();
        x.road(8);
        Due.feed(x, "5*8");
        int[][] none = {{-1, 3}, {3, 3}, {0, 0}, {0, -1}, {0, 121}, {0, 21}, {Integer.MIN_VALUE, 3},
            {Integer.MAX_VALUE, 3}, {0, Integer.MIN_VALUE}, {0, Integer.MAX_VALUE}};
        for (int[] call : none) {
            Due.is("3 row(" + call[0] + ", " + call[1] + ")", -1, x.row(call[0], call[1]));
            Due.is("3 the tape stays", 20, x.count(7));
        }
        Due.is("3 it still has it", 40, x.row(0, 3));
        x.road(64);
        StringBuilder text = new StringBuilder();
        for (int i = 0; i < 28; i++) {
            text.append("10,");
        }
        text.append("1*36");
        while (text.length() < 120) {
            text.insert(text.length() - 4, "2,");
        }
        int length = text.length();
        Due.is("3 a text of 120 bytes", 120, length);
        Due.is("3 ends with too many", -6116, Due.kerb(x, text.toString()));
        Due.feed(x, text + "1");
        Due.is("3 121 bytes", -1, x.row(0, 121));
    }

    private static void old() {
        WhiteLine x = new WhiteLine();
        x.road(8);
        int[][] none = {{-1, 3, 0}, {0, 8, 0}, {3, 2, 0}, {8, 8, 0}, {0, 7, 100}, {0, 7, -101}, {0, 7, 1000},
            {Integer.MIN_VALUE, 7, 0}, {0, Integer.MAX_VALUE, 0}};
        for (int[] call : none) {
            Due.is("4 old(" + call[0] + ", " + call[1] + ", " + call[2] + ")", false, x.old(call[0], call[1], call[2]));
        }
        for (int i = 0; i < 8; i++) {
            Due.is("4 none", -2, x.dot(i, 3));
        }
        Due.is("4 lowest", true, x.old(0, 7, -99));
        Due.is("4 its offset", 1, x.dot(7, 3));
        Due.is("4 highest", true, x.old(1, 1, 99));
        Due.is("4 there", 199, x.dot(1, 3));
        Due.is("4 not there", 1, x.dot(2, 3));
        Due.is("4 none", true, x.old(2, 3, -100));
        Due.is("4 none there", -2, x.dot(2, 3));
        Due.is("4 none there", -2, x.dot(3, 3));
        Due.is("4 still there", 1, x.dot(4, 3));
    }

    private static void feed() {
        WhiteLine x = new WhiteLine();
        for (int k = 1; k <= 13; k++) {
            Due.is("5 feed", 20 * k, x.feed(1, 2, 3, 4, 5));
        }
        Due.is("5 more than 260", -1, x.feed(1, 2, 3, 4, 5));
        Due.is("5 as many as before", 260, x.count(7));
        WhiteLine y = new WhiteLine();
        y.road(8);
        y.feed(0x312c322c, 0x332c342c, 0x352c362c, 0x372c38ff, 0x80000000);
        Due.is("5 the highest byte first", 36, y.row(2, 15));
        for (int i = 0; i < 8; i++) {
            Due.is("5 dot(" + i + ", 2)", i + 1, y.dot(i, 2));
        }
        y.feed(0x312a3830, 0, 0, 0, 0);
        y.feed(-1, -1, -1, -1, -1);
        Due.is("5 behind the tape", 8, y.row(2, 3));
    }

    private static void dot() {
        WhiteLine x = new WhiteLine();
        x.road(8);
        Due.kerb(x, "1,2,3,4,5,6,7,-8");
        Due.height(x, "11,12,13,14,15,16,17,18");
        Due.wear(x, "21,22,23,24,25,26,27,28");
        x.old(2, 2, -7);
        Due.law(x, "p2(a=0);p3(a=1);d4(1=1)");
        x.party(0, true, 2);
        x.party(1, true, -3);
        x.car(5, 0, 0);
        x.minutes(2);
        x.dew(2);
        x.minutes(1);
        int[] first = {1, 11, 21, -2, 103, 2, 5, 1, -2};
        int[] second = {2, 12, 22, -2, -2, -2, -2, 0, 0};
        int[] third = {3, 13, 23, 93, -2, -2, -2, 0, -2};
        int[] last = {-8, 18, 28, -2, 89, 3, 12, 1, -2};
        for (int what = 0; what < 9; what++) {
            Due.is("14 dot(0, " + what + ")", first[what], x.dot(0, what));
            Due.is("14 dot(1, " + what + ")", second[what], x.dot(1, what));
            Due.is("14 dot(2, " + what + ")", third[what], x.dot(2, what));
            Due.is("14 dot(7, " + what + ")", last[what], x.dot(7, what));
        }
        x.minutes(1);
        Due.is("14 by party 1", 1, x.dot(6, 8));
        x.minutes(1);
        Due.is("14 wet for d", 1, x.dot(0, 7));
        x.minutes(1);
        Due.is("14 dry behind d", 0, x.dot(0, 7));
        Due.is("14 spoilt all the same", 5, x.dot(0, 6));
        int[][] none = {{-1, 0}, {8, 0}, {0, 9}, {0, -1}, {Integer.MIN_VALUE, 0}, {Integer.MAX_VALUE, 0},
            {0, Integer.MIN_VALUE}, {0, Integer.MAX_VALUE}};
        for (int[] call : none) {
            Due.is("14 dot(" + call[0] + ", " + call[1] + ")", -1, x.dot(call[0], call[1]));
        }
    }

    private static void keepAndUndo() {
        WhiteLine x = new WhiteLine();
        Due.is("34 none kept", false, x.undo());
        Due.is("33 none painted", 0, x.keep());
        x.road(8);
        x.party(0, true, 0);
        x.minutes(5);
        Due.is("34 undone", true, x.undo());
        Due.is("34 dots", 16, x.count(0));
        Due.is("34 minute", 0, x.count(1));
        Due.is("34 again", true, x.undo());
        x.party(0, true, 0);
        x.minutes(3);
        Due.is("33 painted", 3, x.keep());
        x.minutes(4);
        Due.is("34 kept last", true, x.undo());
        Due.is("34 painted", 3, x.count(2));
        Due.law(x, "p5(1=1)");
        Due.feed(x, "abc");
        x.undo();
        Due.is("34 the law is not kept", 1, x.count(6));
        Due.is("34 nor the tape", 20, x.count(7));
    }

    private static void undoBringsAllBack() {
        WhiteLine x = new WhiteLine();
        x.road(9);
        Due.law(x, "p3(1=1);d50(1=1)");
        Due.kerb(x, "3*9");
        Due.height(x, "4*9");
        Due.wear(x, "5*9");
        x.old(0, 3, 6);
        x.party(0, true, 7);
        x.party(1, true, -7);
        x.car(2, 1, 1);
        x.cones(20);
        x.dew(3);
        x.minutes(5);
        x.keep();
        int[] counts = new int[70];
        int[][] dots = new int[9][9];
        for (int what = 0; what < counts.length; what++) {
            counts[what] = x.count(what);
        }
        for (int i = 0; i < 9; i++) {
            for (int what = 0; what < 9; what++) {
                dots[i][what] = x.dot(i, what);
            }
        }
        Due.is("33 being painted", 0, x.dot(1, 8));
        Due.is("33 spoilt by dew or car", true, counts[3] > 0);
        x.burns(0, 8);
        x.road(12);
        Due.kerb(x, "1*12");
        Due.height(x, "1*12");
        Due.wear(x, "1*12");
        x.old(0, 11, 1);
        x.party(0, true, 1);
        x.party(1, false, 1);
        x.car(2, 0, 9);
        x.car(3, 0, 9);
        x.cones(1);
        x.dew(-1);
        x.minutes(9);
        x.undo();
        for (int what = 0; what < counts.length; what++) {
            Due.is("34 count(" + what + ")", counts[what], x.count(what));
        }
        for (int i = 0; i < 9; i++) {
            for (int what = 0; what < 9; what++) {
                Due.is("34 dot(" + i + ", " + what + ")", dots[i][what], x.dot(i, what));
            }
        }
        Due.is("34 it has one minute left with it", 2, x.minutes(1));
        Due.is("34 wet as it was kept", 1, x.dot(0, 7));
    }

    private static void check() {
        WhiteLine x = new WhiteLine();
        x.road(8);
        Due.kerb(x, "-99,99,5,0*5");
        x.party(0, true, 0);
        x.minutes(3);
        Due.is("35 right", -1, x.check(Due.feed(x, 1, 199, 105, 0, 0, 0, 0, 0)));
        Due.is("35 empty then", 0, x.count(7));
        Due.is("35 some", -1, x.check(Due.feed(x, 1, 199)));
        Due.is("35 the first", 0, x.check(Due.feed(x, 2, 198)));
        Due.is("35 the second", 1, x.check(Due.feed(x, 1, 198, 106)));
        Due.is("35 not painted", 3, x.check(Due.feed(x, 1, 199, 105, 100)));
        Due.is("35 the last", 7, x.check(Due.feed(x, 1, 199, 105, 0, 0, 0, 0, 1)));
        Due.is("35 empty then", 0, x.count(7));
        Due.is("35 none", -1, x.check(0));
        Due.is("35 it has not so many", -2, x.check(1));
        Due.feed(x, 1, 199, 105, 0, 0, 0, 0, 0, 0);
        for (int n : new int[] {9, -1, 21, Integer.MIN_VALUE, Integer.MAX_VALUE}) {
            Due.is("35 check(" + n + ")", -2, x.check(n));
            Due.is("35 the tape stays", 20, x.count(7));
        }
        Due.is("35 none of them", -1, x.check(0));
        Due.is("35 empty all the same", 0, x.count(7));
    }

    private static void count() {
        WhiteLine x = new WhiteLine();
        x.road(12);
        Due.law(x, "p1(1=1);d9(1=1);s3(1=1)");
        x.party(0, true, -20);
        x.party(1, false, 20);
        x.car(0, 0, 0);
        x.car(11, 1, 9999);
        x.cones(7);
        x.dew(9999);
        x.minutes(4);
        Due.feed(x, "abc");
        int[] due = {12, 4, 4, 4, 7, 9999, 3, 20, -1, -1, 1, 0, -1, -1};
        for (int what = 0; what < due.length; what++) {
            Due.is("36 count(" + what + ")", due[what], x.count(what));
        }
        Due.is("36 offset 0", 80, x.count(20));
        Due.is("36 offset 1", 120, x.count(21));
        Due.is("36 way 0", 0, x.count(30));
        Due.is("36 way 11", 1, x.count(41));
        Due.is("36 minute 0", 0, x.count(50));
        Due.is("36 minute 11", 9999, x.count(61));
        for (int what : new int[] {-1, 8, 9, 12, 19, 22, 29, 31, 40, 42, 49, 51, 60, 62, 70, Integer.MIN_VALUE,
            Integer.MAX_VALUE}) {
            Due.is("36 count(" + what + ")", -1, x.count(what));
        }
        x.dew(0);
        Due.is("36 dew 0", 0, x.count(5));
        x.dew(-1);
        Due.is("36 no dew", -2, x.count(5));
    }
}
