/** Terms, parts 2 and 3: each sentence on SEEN, BROKEN, MARKED and CUT that names an edge. */
public final class SightEdgesTest {
    private static final String SEEN = "Terms, SEEN";
    private static final String CUT = "Terms, CUT";

    public static void main(String[] args) {
        eyes();
        ways();
        firstHidden();
        below();
        broken();
        allTillTheEnd();
        marked();
        cutWhereWhole();
        cutEnough();
        Due.end("SightEdgesTest");
    }

    private static WhiteLine height(String row) {
        WhiteLine x = Made.road(8);
        Due.is("height " + row, true, Due.height(x, row) >= 0);
        return x;
    }

    private static void eyes() {
        Due.sentence(SEEN, "with the eye so high above its HEIGHT (1 to 9)");
        WhiteLine x = height("5,5,6,5,5,5,5,5");
        Due.is("1 above 5: at 6", 2, x.seen(0, 0, 1));
        Due.is("2 above 5: over the hump the road is at 5.5", 2, x.seen(0, 0, 2));
        Due.is("3 above 5", 7, x.seen(0, 0, 3));
        Due.is("9 above 5", 7, x.seen(0, 0, 9));
        Due.is("0", -1, x.seen(0, 0, 0));
        Due.is("10", -1, x.seen(0, 0, 10));
    }

    private static void ways() {
        Due.sentence(SEEN, "(way 0 rising, 1 falling)");
        WhiteLine x = height("0,0,0,5,0,0,0,0");
        Due.is("rising", 1, x.seen(2, 0, 1));
        Due.is("falling", 2, x.seen(2, 1, 1));
        Due.is("way 2", -1, x.seen(2, 2, 1));
        Due.is("way -1", -1, x.seen(2, -1, 1));
        Due.is("the last, rising", 0, x.seen(7, 0, 1));
        Due.is("the first, falling", 0, x.seen(0, 1, 1));
        Due.is("the last, falling", 4, x.seen(7, 1, 1));
        Due.is("the first, rising", 3, x.seen(0, 0, 1));
    }

    private static void firstHidden() {
        Due.sentence(SEEN, "till the first one that is hidden");
        Due.is("what is seen behind it does not count", 3, height("0,0,0,5,0,0,99,0").seen(0, 0, 1));
        Due.is("a second hump", 3, height("0,0,0,5,0,20,0,0").seen(0, 0, 1));
        Due.is("none is hidden", 7, height("0*8").seen(0, 0, 1));
        Due.is("by one far from it", 3, height("0,0,0,9,0,0,0,0").seen(0, 0, 9));
    }

    private static void below() {
        Due.sentence(SEEN, "the straight line from the eye to the HEIGHT of that one is below the HEIGHT of a DOT between");
        // From 3 to 0 at dot 3: at dot 2 it is at 1, no less than the hump.
        Due.is("at it is not below", 7, height("0,0,1,0,0,0,0,0").seen(0, 0, 3));
        // From 3 to 0 at dot 4: at dot 3 it is at 0.75.
        Due.is("a quarter below", 3, height("0,0,0,1,0,0,0,0").seen(0, 0, 3));
        Due.is("from 4 just at it", 7, height("0,0,0,1,0,0,0,0").seen(0, 0, 4));
        Due.is("the next one is never hidden", 1, height("0,99,0,0,0,0,0,0").seen(0, 0, 1));
        Due.is("uphill, ever steeper", 7, height("0,1,4,9,16,25,36,49").seen(0, 0, 1));
        Due.is("over a crest", 1, height("49,48,45,40,33,24,13,0").seen(0, 0, 1));
    }

    /** How a dot is marked by s 0, 1, 2 and so on. */
    private static void markedIs(String row, int dot, int... due) {
        WhiteLine x = height(row);
        for (int s = 0; s < due.length; s++) {
            Due.law(x, "s" + s + "(1=1)");
            Due.is("marked(" + dot + ", 1) by s " + s, due[s], x.marked(dot, 1));
        }
    }

    private static void broken() {
        Due.sentence(SEEN, "BROKEN for a way at a DOT, if so many as s are SEEN");
        // Seen rising from dot 0: 3.
        markedIs("0,0,0,5,0,0,0,0", 0, 3, 3, 3, 3, 2);
    }

    private static void allTillTheEnd() {
        Due.sentence(SEEN, "(or all till the end of the road); MARKED");
        // Seen rising from dots 6 and 7: 1 and 0, and these are all; falling 3 and 4.
        markedIs("0,0,0,5,0,0,0,0", 7, 3, 3, 3, 3, 3, 1, 1);
        markedIs("0,0,0,5,0,0,0,0", 6, 3, 3, 3, 3, 1, 1);
        markedIs("0*8", 4, 3, 3, 3, 3, 3, 3, 3, 3, 3);
    }

    private static void marked() {
        Due.sentence(SEEN, "MARKED: whole (0), broken for way 0 alone (1), for way 1 alone (2), for both (3)");
        WhiteLine x = height("0,0,5,0,0,5,0,0");
        Due.law(x, "s3(1=1)");
        int[] due = {2, 2, 3, 0, 0, 3, 1, 1};
        for (int i = 0; i < 8; i++) {
            Due.is("marked(" + i + ", 1)", due[i], x.marked(i, 1));
        }
    }

    private static void cutWhereWhole() {
        Due.sentence(CUT, "DOTS that are whole for a way, at which a bold driver sees enough all the same");
        // Seen rising: 3 2 1 4 3 2 1 0, the last five of them all there is.
        WhiteLine x = height("0,0,0,5,0,0,0,0");
        Due.law(x, "s9(1=1)");
        int[] due = {3, 3, 2, 1, 0};
        for (int enough = 0; enough < due.length; enough++) {
            Due.is("cut(0, 1, " + enough + ")", due[enough], x.cut(0, 1, enough));
        }
        Due.law(x, "s2(1=1)");
        Due.is("broken ones are not cut", 1, x.cut(0, 1, 0));
    }

    private static void cutEnough() {
        Due.sentence(CUT, "(told DOTS on end, or all till the end of the road)");
        WhiteLine x = height("0,0,0,5,0,0,0,0");
        Due.law(x, "s9(1=1)");
        Due.is("so many just do", 1, x.cut(0, 1, 3));
        Due.is("one more does not", 0, x.cut(0, 1, 4));
        Due.is("63", 0, x.cut(1, 1, 63));
        WhiteLine y = height("0*8");
        Due.law(y, "s9(1=1)");
        Due.is("who sees all till the end is at a broken line", 0, y.cut(0, 1, 0));
    }
}
