/** Promise 6: THE LAW, its FAULTS and what it comes to. */
public final class LawPromisesTest {
    public static void main(String[] args) {
        faults();
        clauses();
        openInOneAnother();
        refused();
        sums();
        conditions();
        dividedByNothing();
        bounds();
        lettersOfDots();
        lettersOfNights();
        lettersOfLines();
        Due.end("LawPromisesTest");
    }

    private static void fault(String text, int due) {
        WhiteLine x = new WhiteLine();
        Due.law(x, "p1(1=1);d1(1=1)");
        Due.is("6 law by '" + text + "'", due, Due.law(x, text));
        Due.is("6 the tape is empty behind '" + text + "'", 0, x.count(7));
        Due.is("6 clauses", due > 0 ? due : 2, x.count(6));
    }

    private static void faults() {
        fault("p1(1=1)", 1);
        fault("x1(1=1)", -1000);
        fault("i1(1=1)", -1000);
        fault("P1(1=1)", -1000);
        fault("(1=1)", -1000);
        fault(";", -1000);
        fault("p", -1001);
        fault("p(1=1)", -1001);
        fault("p-1(1=1)", -1001);
        fault("p x", -1001);
        fault("p1", -1002);
        fault("p1 (1=1)", -1002);
        fault("p1+(1=1)", -1003);
        fault("p1*/2(1=1)", -1003);
        fault("p1[2](1=1)", -1002);
        fault("pi2(1=1)", -1002);
        fault("p1)", -1002);
        fault("p1(", -1003);
        fault("p1()", -1003);
        fault("p1(1)", -1004);
        fault("p1(1=)", -1005);
        fault("p1(1=1=1)", -1006);
        fault("p1(1<=1)", -1005);
        fault("p1(1=1", -1006);
        fault("p1(1=1&)", -1007);
        fault("p1(1=1|&1=1)", -1007);
        fault("p1(1=1)x", -1007);
        fault("p1(1=1))", -1007);
        fault("p1(1=1);", -1008);
        fault("p1(1=1);;", -1008);
        fault("p1(1=1);x", -1008);
        fault("p1(!)", -1004);
        fault("p1(1!=1)", -1004);
        fault("p1(1=!1)", -1005);
        fault("p1((1=1)", -1008);
        fault("p1((1)=1)", -1005);
        fault("p1([1=1])", -1005);
        fault("p1([1]=[1])", 1);
        fault("p[1(1=1)", -1003);
        fault("p[1)", -1003);
        fault("p[](1=1)", -1002);
        fault("p1](1=1)", -1002);
        fault("p1(p=1)", -1003);
        fault("p1(1=s)", -1005);
        fault("p1(1=\u00e9)", -1005);
        fault("p12345(1=1)", 1);
        fault("p123456(1=1)", -2006);
        fault("p00000(1=1)", 1);
        fault("p000000(1=1)", -2006);
        fault("p1(1=123456", -2010);
        fault("p1(1=1);d1", -1010);
        fault("p1(1=1);d1(i=n&k=h|w=t&c=a|!r=1)", 2);
    }

    private static void clauses() {
        StringBuilder text = new StringBuilder();
        for (int k = 0; k < 16; k++) {
            text.append(k > 0 ? ";" : "").append("s").append(k % 10).append("(1=1)");
        }
        fault(text.toString(), 16);
        fault(text + ";", -1128);
        fault(text + ";p", -4128);
        fault(text + ";p1(1=1)", -4128);
        fault(text + ";i1(1=1)", -1128);
        fault(text + "x", -1127);
    }

    private static void openInOneAnother() {
        fault("p1((((((1=1))))))", 1);
        fault("p1(((((((1=1)))))))", -5008);
        fault("p1(!!!!!1=1)", 1);
        fault("p1(!!!!!!1=1)", -5008);
        fault("p1(!(!(!1=1)))", 1);
        fault("p1(!(!(!(1=1))))", -5008);
        fault("p1(!(!(![1]=1)))", -5008);
        fault("p1(!!!!1=1&!!!!!1=1)", 1);
        fault("p1(!!!!!1=1&!!!!!1=1)", 1);
        fault("p1(!!!!1=1&!!!!!!1=1)", -5016);
        fault("p[[[[[[1]]]]]](1=1)", 1);
        fault("p[[[[[[[1]]]]]]](1=1)", -5007);
        fault("p1([[[[[1]]]]]=1)", 1);
        fault("p1([[[[[[1]]]]]]=1)", -5008);
        fault("p1(1=[[[[[1]]]]])", 1);
        fault("p1(1=[[[[[[1]]]]]])", -5010);
        fault("p1(!!!!!1=[1])", -5010);
        fault("p1(!!!!1=[1]+[2])", 1);
        fault("p1(!!!!!!", -5008);
        fault("p1(!!!!!", -1008);
        fault("p1(1=(((((((", -1005);
    }

    private static void refused() {
        WhiteLine x = new WhiteLine();
        Due.law(x, "p1(1=1);d1(1=1)");
        Due.feed(x, "p1(1=1)");
        for (int n : new int[] {0, -1, 241, 21, Integer.MIN_VALUE, Integer.MAX_VALUE}) {
            Due.is("6 law(" + n + ")", -1, x.law(n));
            Due.is("6 the tape stays", 20, x.count(7));
            Due.is("6 the law stays", 2, x.count(6));
        }
        Due.is("6 it still has it", 1, x.law(7));
        StringBuilder text = new StringBuilder("p10");
        while (text.length() < 235) {
            text.append("+1");
        }
        Due.is("6 240 bytes", 1, Due.law(x, text + "(1=1)"));
        Due.feed(x, text + "1(1=1)");
        Due.is("6 241 bytes", -1, x.law(241));
    }

    /** What an E without letters of dots comes to in 0 to 99: four dots each are painted first. */
    private static int worth(String text) {
        WhiteLine x = new WhiteLine();
        x.road(8);
        Due.is("6 '" + text + "'", 1, Due.law(x, "d" + text + "(1=1)"));
        return x.begins(0, 0) - 4;
    }

    private static boolean holds(String text) {
        WhiteLine x = new WhiteLine();
        x.road(8);
        Due.is("6 '" + text + "'", 1, Due.law(x, "d9(" + text + ")"));
        return x.begins(0, 0) - 4 == 9;
    }

    private static void sums() {
        Object[][] due = {{"7", 7}, {"2+3*4", 14}, {"20-3-4", 13}, {"20-3+4", 21}, {"20/3*2", 12}, {"20%7/2", 3},
            {"2*7%4", 2}, {"[2+3]*4", 20}, {"20-[3-4]", 21}, {"[[[5]]]", 5}, {"0-5", 0}, {"0-5+9", 4}, {"99", 99},
            {"100", 99}, {"99999", 99}, {"00042", 42}, {"[0-7]/2+10", 7}, {"[0-7]%4+10", 7}, {"7%[0-4]", 3},
            {"99999*99999%100", 9}, {"65536*65536+3", 3}, {"32768*65536", 0}, {"32768*65536-1", 99}, {"n", 8},
            {"n*n", 64}, {"1+n%3*2", 5}};
        for (Object[] one : due) {
            Due.is("6 what " + one[0] + " comes to", (Integer) one[1], worth((String) one[0]));
        }
    }

    private static void conditions() {
        Object[][] due = {{"1=1", true}, {"1=2", false}, {"1<2", true}, {"2<1", false}, {"1<1", false}, {"2>1", true},
            {"1>1", false}, {"1>2", false}, {"!1=1", false}, {"!!1=1", true}, {"1=1|1=2", true}, {"1=2|1=1", true},
            {"1=2|1=2", false}, {"1=1&1=2", false}, {"1=1&1=1", true}, {"1=2&1=1", false}, {"1=1|1=1&1=2", true},
            {"(1=1|1=1)&1=2", false}, {"1=2&1=2|1=1", true}, {"1=2&(1=2|1=1)", false}, {"!1=2&1=2", false},
            {"!(1=2&1=2)", true}, {"!1=2|1=2", true}, {"!(1=1|1=2)", false}, {"1=2|1=2|1=1", true},
            {"1=1&1=1&1=2", false}, {"1+1=2", true}, {"3-5<0", true}, {"0-1>0-2", true}, {"((1=1))", true}};
        for (Object[] one : due) {
            Due.is("6 whether " + one[0] + " holds", (Boolean) one[1], holds((String) one[0]));
        }
        WhiteLine x = new WhiteLine();
        x.road(8);
        Due.law(x, "s40(1=1);d5(1=2);d6(1=1);d7(1=1)");
        Due.is("6 the first that holds", 4 + 6, x.begins(0, 0));
        Due.law(x, "d5(1=2);p3(1=1)");
        Due.is("6 none holds", 12, x.begins(0, 0));
    }

    private static void dividedByNothing() {
        Due.is("6 an E is 0", 0, worth("9+5/0"));
        Due.is("6 an E is 0", 0, worth("5%0+9"));
        Due.is("6 an E is 0", 0, worth("9+[5/[2-2]]*0"));
        Due.is("6 0 / 0", 0, worth("9+0/0"));
        Object[][] due = {{"1/0=0|1=1", false}, {"1=1|1/0=0", true}, {"!(1/0=0)", false}, {"!1%0=0", false},
            {"(1/0=0)|1=1", false}, {"1=2&1/0=0|1=1", true}, {"1=1&1/0=0|1=1", false}, {"!(1=2&1/0=0)", true},
            {"!(1=1|1/0=0)", false}, {"1=2|(1=1|1/0=0)&1=1", true}, {"1=2|1/0=0|1=1", false},
            {"0*[1/0]=0", false}, {"1=1/0", false}, {"1=1|1=1&1/0=0", true}, {"!!1/0=1", false},
            {"[32768*65536]/[0-1]<0", true}, {"[32768*65536]%[0-1]=0", true}};
        for (Object[] one : due) {
            Due.is("6 whether " + one[0] + " holds", (Boolean) one[1], holds((String) one[0]));
        }
        WhiteLine x = new WhiteLine();
        x.road(8);
        Due.law(x, "d5(1/0=1);d6(1=1)");
        Due.is("6 the next clause", 10, x.begins(0, 0));
        Due.law(x, "d5/[i-3]+20(1=1)");
        Due.is("6 at the next one 25", 4 + 25, x.begins(0, 0));
        x.party(0, true, 0);
        x.minutes(8);
        Due.is("6 dry at once there", 0, x.dot(3, 7));
        Due.is("6 not at the one ahead", 1, x.dot(2, 7));
    }

    private static void bounds() {
        WhiteLine x = new WhiteLine();
        x.road(8);
        Due.is("6 no law: p is 1, d is 0", 4, x.begins(0, 0));
        Due.law(x, "p0(1=1)");
        Due.is("6 p at least 1", 4, x.begins(0, 0));
        Due.law(x, "p0-7(1=1)");
        Due.is("6 p at least 1", 4, x.begins(0, 0));
        Due.law(x, "p9(1=1)");
        Due.is("6 p is 9", 36, x.begins(0, 0));
        Due.law(x, "p10(1=1)");
        Due.is("6 p at most 9", 36, x.begins(0, 0));
        Due.law(x, "p5/0(1=1)");
        Due.is("6 p refused", 4, x.begins(0, 0));
        Due.law(x, "d100(1=1)");
        Due.is("6 d at most 99", 103, x.begins(0, 0));
        x.road(64);
        Due.height(x, "0*62,9,0");
        Due.law(x, "s64(1=1)");
        Due.is("6 s is not above 63: never so many", 2, x.marked(0, 1));
        Due.law(x, "s62(1=1)");
        Due.is("6 s is 62", 3, x.marked(0, 1));
        Due.law(x, "s63(1=1)");
        Due.is("6 s is 63", 2, x.marked(0, 1));
        Due.law(x, "s0-1(1=1)");
        Due.is("6 s at least 0", 3, x.marked(30, 1));
        x.old(0, 63, 0);
        x.party(0, true, 0);
        x.minutes(1);
        Due.law(x, "o100(1=1);l99(1=1)");
        Due.is("6 o at most 99: alike", 2, x.believed(0, false));
        Due.law(x, "o99(1=1);l100(1=1)");
        Due.is("6 l at most 99: alike", 2, x.believed(0, false));
        Due.law(x, "o99(1=1);l98(1=1)");
        Due.is("6 o is 99", 1, x.believed(0, false));
        Due.law(x, "o0-1(1=1);l0-2(1=1)");
        Due.is("6 both at least 0", 0, x.believed(0, false));
    }

    /** Which dots have an OLD line that is plain: those at which a C holds. */
    private static void plainAt(WhiteLine x, String condition, String dots) {
        Due.is("6 " + condition, 1, Due.law(x, "o1(" + condition + ")"));
        for (int i = 0; i < 8; i++) {
            Due.is("6 " + condition + " at " + i, dots.indexOf('0' + i) >= 0 ? 1 : 0, x.believed(i, false));
        }
    }

    private static void lettersOfDots() {
        WhiteLine x = new WhiteLine();
        x.road(8);
        x.old(0, 7, 0);
        Due.kerb(x, "5,7,-3,-3,0*4");
        Due.height(x, "0,1,2,3,4,5,6,7");
        Due.wear(x, "9,8,7,6,5,4,3,2");
        plainAt(x, "i=4", "4");
        plainAt(x, "i>5|i<1", "067");
        plainAt(x, "n=8", "01234567");
        plainAt(x, "n-i=1", "7");
        plainAt(x, "k=0-3", "23");
        plainAt(x, "k>0", "01");
        plainAt(x, "h=6", "6");
        plainAt(x, "w=6", "3");
        plainAt(x, "c=0", "03567");
        plainAt(x, "c=2", "1");
        plainAt(x, "c=10", "2");
        plainAt(x, "c=3", "4");
        plainAt(x, "t=0", "01234567");
        plainAt(x, "a=0", "01234567");
        plainAt(x, "r=0", "01234567");
        x.minutes(11);
        plainAt(x, "t=11", "01234567");
    }

    /** t in p is when the painting begins, in d when it ends; a is the party in both; r is 0. */
    private static void lettersOfNights() {
        WhiteLine x = new WhiteLine();
        x.road(8);
        Due.law(x, "p2+t(t<4);p1(1=1);d10*t(1=1)");
        x.party(0, true, 0);
        x.minutes(2);
        Due.is("6 begun at 0: p is 2", 2, x.dot(0, 5));
        x.minutes(4);
        Due.is("6 begun at 2: p is 4", 6, x.dot(1, 5));
        x.minutes(1);
        Due.is("6 begun at 6: p is 1", 7, x.dot(2, 5));
        x.party(0, false, 0);
        x.minutes(14);
        Due.is("6 wet at 21", 1, x.dot(0, 7));
        x.minutes(1);
        Due.is("6 dry at 22", 0, x.dot(0, 7));
        x.minutes(43);
        Due.is("6 wet at 65", 1, x.dot(1, 7));
        x.minutes(1);
        Due.is("6 dry at 66", 0, x.dot(1, 7));
        WhiteLine y = new WhiteLine();
        y.road(8);
        Due.law(y, "p1+a(1=1);d3+a*4(r=0)");
        y.party(0, true, 0);
        y.party(1, true, 0);
        y.minutes(2);
        Due.is("6 a is 0: p is 1", 2, y.dot(1, 5));
        Due.is("6 a is 1: p is 2", 2, y.dot(7, 5));
        Due.is("6 not yet", -2, y.dot(6, 5));
        y.minutes(3);
        Due.is("6 d is 3", 0, y.dot(1, 7));
        Due.is("6 d is 7", 1, y.dot(7, 7));
        y.minutes(3);
        Due.is("6 d is 7", 1, y.dot(7, 7));
        y.minutes(1);
        Due.is("6 d was 7", 0, y.dot(7, 7));
    }

    private static void lettersOfLines() {
        WhiteLine x = new WhiteLine();
        x.road(8);
        x.old(0, 7, 0);
        Due.law(x, "o5+10*r(1=1);l10(r=0);l12(r=1)");
        x.party(0, true, 0);
        x.minutes(8);
        Due.is("6 no rain", 2, x.believed(0, false));
        Due.is("6 rain", 1, x.believed(0, true));
        Due.law(x, "o5(a=0);l9(a=0)");
        Due.is("6 a is 0 in o and l", 2, x.believed(0, false));
        Due.law(x, "o5(1=1);l9(t=8&i=3)");
        Due.is("6 t is the minute in l", 2, x.believed(3, false));
        Due.is("6 i is the dot in l", 1, x.believed(4, false));
        Due.law(x, "s9(a=0&r=0&t=8)");
        Due.height(x, "0*4,9,0*3");
        Due.is("6 a and r are 0 in s, t is the minute", 2, x.marked(0, 1));
        x.minutes(1);
        Due.is("6 no clause holds: s is 0", 3, x.marked(0, 1));
    }
}
