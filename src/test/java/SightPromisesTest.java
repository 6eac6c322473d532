/** Promises 17 to 19 and 30: how far one sees, how the line is marked, who cuts it. */
public final class SightPromisesTest {
    public static void main(String[] args) {
        seen();
        seenOverHumps();
        seenRefused();
        marked();
        markings();
        cut();
        Due.end("SightPromisesTest");
    }

    private static WhiteLine by(int dots, String height) {
        WhiteLine x = new WhiteLine();
        x.road(dots);
        Due.is("height " + height, true, Due.height(x, height) >= 0);
        return x;
    }

    private static void seen() {
        WhiteLine x = by(8, "7*8");
        for (int i = 0; i < 8; i++) {
            for (int eye = 1; eye < 10; eye++) {
                Due.is("17 level, rising", 7 - i, x.seen(i, 0, eye));
                Due.is("17 level, falling", i, x.seen(i, 1, eye));
            }
        }
        WhiteLine y = by(64, "0*64");
        Due.is("17 to the end", 63, y.seen(0, 0, 1));
        Due.is("17 to the end", 63, y.seen(63, 1, 1));
    }

    private static void seenOverHumps() {
        WhiteLine x = by(8, "0,0,0,5,0,0,0,0");
        Due.is("17 the hump itself is seen", 3, x.seen(0, 0, 1));
        Due.is("17 none behind it", 1, x.seen(2, 0, 1));
        Due.is("17 from it all", 4, x.seen(3, 0, 1));
        Due.is("17 from it all", 3, x.seen(3, 1, 1));
        Due.is("17 behind it all", 3, x.seen(4, 0, 1));
        Due.is("17 back to it", 4, x.seen(7, 1, 1));
        Due.is("17 by 9 the line to dot 6 is at 4.5 there", 3, x.seen(0, 0, 9));
        WhiteLine y = by(8, "0,0,0,5,0,0,9,0");
        Due.is("17 on end, whatever is seen behind", 3, y.seen(0, 0, 1));
        WhiteLine z = by(8, "0,0,1,0,0,0,0,0");
        Due.is("17 the line to dot 3 is below the hump, by 1", 2, z.seen(0, 0, 1));
        Due.is("17 the line to dot 3 is below the hump, by 2", 2, z.seen(0, 0, 2));
        Due.is("17 by 3 just at it is not below, and further on it is above", 7, z.seen(0, 0, 3));
        WhiteLine w = by(8, "0,1,2,3,4,5,6,7");
        Due.is("17 uphill", 7, w.seen(0, 0, 1));
        Due.is("17 downhill", 7, w.seen(7, 1, 1));
        WhiteLine v = by(8, "0,1,4,9,16,25,36,49");
        Due.is("17 a hollow", 7, v.seen(0, 0, 1));
        WhiteLine u = by(8, "49,48,45,40,33,24,13,0");
        Due.is("17 a crest", 1, u.seen(0, 0, 1));
        Due.is("17 a crest, from higher up", 3, u.seen(0, 0, 9));
    }

    private static void seenRefused() {
        WhiteLine x = by(8, "0*8");
        int[][] none = {{-1, 0, 1}, {8, 0, 1}, {0, -1, 1}, {0, 2, 1}, {0, 0, 0}, {0, 0, 10}, {Integer.MIN_VALUE, 0, 1},
            {0, Integer.MAX_VALUE, 1}, {0, 0, Integer.MIN_VALUE}};
        for (int[] call : none) {
            Due.is("17 seen(" + call[0] + ", " + call[1] + ", " + call[2] + ")", -1, x.seen(call[0], call[1], call[2]));
        }
        int[][] noMark = {{-1, 1}, {8, 1}, {0, 0}, {0, 10}, {Integer.MAX_VALUE, 1}, {0, Integer.MIN_VALUE}};
        for (int[] call : noMark) {
            Due.is("18 marked(" + call[0] + ", " + call[1] + ")", -1, x.marked(call[0], call[1]));
        }
        int[][] noMarks = {{0, 0, 0}, {10, 0, 0}, {1, -1, 0}, {1, 4, 0}, {1, 0, -1}, {1, 0, 2},
            {Integer.MIN_VALUE, 0, 0}, {1, Integer.MAX_VALUE, 0}, {1, 0, Integer.MAX_VALUE}};
        for (int[] call : noMarks) {
            Due.is("19 markings(" + call[0] + ", " + call[1] + ", " + call[2] + ")", -1,
                    x.markings(call[0], call[1], call[2]));
        }
        int[][] noCut = {{-1, 1, 0}, {2, 1, 0}, {0, 0, 0}, {0, 10, 0}, {0, 1, -1}, {0, 1, 64},
            {Integer.MIN_VALUE, 1, 0}, {0, Integer.MAX_VALUE, 0}, {0, 1, Integer.MAX_VALUE}};
        for (int[] call : noCut) {
            Due.is("30 cut(" + call[0] + ", " + call[1] + ", " + call[2] + ")", -1, x.cut(call[0], call[1], call[2]));
        }
    }

    private static void marked() {
        // Seen rising: 3 2 1 4 3 2 1 0; falling: 0 1 2 3 1 2 3 4.
        WhiteLine x = by(8, "0,0,0,5,0,0,0,0");
        int[][] due = {{3, 3, 3, 3, 3, 3, 3, 3}, {3, 3, 3, 3, 3, 3, 3, 3}, {3, 3, 2, 3, 1, 3, 3, 3},
            {3, 2, 2, 3, 1, 1, 3, 3}, {2, 2, 2, 3, 1, 1, 1, 3}, {2, 2, 2, 3, 1, 1, 1, 1}};
        for (int s = 0; s < due.length; s++) {
            Due.law(x, "s" + s + "(1=1)");
            for (int i = 0; i < 8; i++) {
                Due.is("18 marked(" + i + ", 1) by s " + s, due[s][i], x.marked(i, 1));
            }
        }
        Due.law(x, "s9(i=2|i=4);s1(i<4)");
        int[] byDots = {3, 3, 2, 3, 1, 3, 3, 3};
        for (int i = 0; i < 8; i++) {
            Due.is("18 s at the dot itself", byDots[i], x.marked(i, 1));
        }
        WhiteLine y = by(8, "0,5,0,0,0,5,0,0");
        Due.law(y, "s9(1=1)");
        Due.is("18 whole", 0, y.marked(3, 1));
        Due.is("18 whole", 0, y.marked(2, 1));
        Due.is("18 none ahead: all till the end", 2, y.marked(0, 1));
    }

    private static void markings() {
        WhiteLine x = by(8, "0,0,0,5,0,0,0,0");
        Due.law(x, "s3(1=1)");
        int[] all = {0, 2, 2, 4};
        int[] longest = {0, 2, 2, 2};
        for (int so = 0; so < 4; so++) {
            Due.is("19 how many are " + so, all[so], x.markings(1, so, 0));
            Due.is("19 the longest " + so, longest[so], x.markings(1, so, 1));
        }
        Due.law(x, "s9(i=4);s9(i=2)");
        Due.is("19 stretches of 2, 1 and 3", 6, x.markings(1, 3, 0));
        Due.is("19 the longest is the last", 3, x.markings(1, 3, 1));
        Due.law(x, "s9(i=4)");
        Due.is("19 the longest is the first", 4, x.markings(1, 3, 1));
        Due.law(x, "s0(1=1)");
        Due.is("19 all", 8, x.markings(9, 3, 1));
    }

    private static void cut() {
        // Seen rising: 3 2 1 4 3 2 1 0; falling: 0 1 2 3 1 2 3 4.
        WhiteLine x = by(8, "0,0,0,5,0,0,0,0");
        Due.law(x, "s9(1=1)");
        int[] rising = {3, 3, 2, 1, 0, 0};
        int[] falling = {4, 4, 3, 2, 1, 0};
        for (int enough = 0; enough < 6; enough++) {
            Due.is("30 rising by " + enough, rising[enough], x.cut(0, 1, enough));
            Due.is("30 falling by " + enough, falling[enough], x.cut(1, 1, enough));
        }
        Due.is("30 the most", 0, x.cut(0, 1, 63));
        Due.law(x, "s2(1=1)");
        Due.is("30 one is whole", 1, x.cut(0, 1, 1));
        Due.is("30 none of the broken ones", 0, x.cut(0, 1, 2));
    }
}
