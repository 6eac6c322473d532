/** Terms, part 1: each sentence on the road and its rows that names an edge. */
public final class RoadEdgesTest {
    private static final String ROAD = "Terms, THE ROAD";
    private static final String ROW = "Terms, A ROW";

    public static void main(String[] args) {
        dots();
        kerb();
        height();
        wear();
        oldLine();
        theLine();
        theMinute();
        textOfARow();
        asManyAsDots();
        oneOrTwoDigits();
        minusAhead();
        soManyTimes();
        whatCantStand();
        theEndOfARow();
        badTimes();
        askedWhenDigitsEnd();
        moreThanDots();
        askedWhenAValueEnds();
        Due.end("RoadEdgesTest");
    }

    private static void dots() {
        Due.sentence(ROAD, "DOTS 0 to n - 1 (8 to 64; 16 at first)");
        WhiteLine x = new WhiteLine();
        Due.is("at first", 16, x.count(0));
        dotsEndAt(x, 16);
        Due.is("road(8)", true, x.road(8));
        dotsEndAt(x, 8);
        Due.is("road(64)", true, x.road(64));
        dotsEndAt(x, 64);
        Due.is("road(7)", false, x.road(7));
        Due.is("road(65)", false, x.road(65));
        dotsEndAt(x, 64);
    }

    private static void dotsEndAt(WhiteLine x, int n) {
        Due.is("dot(-1, 0) of " + n, -1, x.dot(-1, 0));
        Due.is("dot(0, 0) of " + n, 0, x.dot(0, 0));
        Due.is("the last of " + n, 0, x.dot(n - 1, 0));
        Due.is("the one behind the last of " + n, -1, x.dot(n, 0));
    }

    private static void kerb() {
        Due.sentence(ROAD, "a KERB (-99 to 99 inches; 0 at first)");
        WhiteLine x = new WhiteLine();
        Made.rowIs("at first", x, 0, new int[16]);
        Due.is("the highest and the lowest", 198, Due.kerb(x, "99,-99,0*14"));
        Made.rowIs("told", x, 0, 99, -99, 0);
        Due.is("100", -1002, Due.kerb(x, "100*16"));
        Due.is("-100", -1003, Due.kerb(x, "-100*16"));
        Made.rowIs("as told", x, 0, 99, -99, 0);
    }

    private static void height() {
        Due.sentence(ROAD, "a HEIGHT (0 to 99; 0 at first)");
        WhiteLine x = new WhiteLine();
        Made.rowIs("at first", x, 1, new int[16]);
        Due.is("the lowest and the highest", 99, Due.height(x, "0,99,0*14"));
        Made.rowIs("told", x, 1, 0, 99, 0);
        Due.is("-1", -1000, Due.height(x, "-1*16"));
        Due.is("100", -1002, Due.height(x, "100*16"));
        Made.rowIs("as told", x, 1, 0, 99, 0);
    }

    private static void wear() {
        Due.sentence(ROAD, "WEAR (0 to 99; 0 at first)");
        WhiteLine x = new WhiteLine();
        Made.rowIs("at first", x, 2, new int[16]);
        Due.is("the lowest and the highest", 99, Due.wear(x, "0,99,0*14"));
        Made.rowIs("told", x, 2, 0, 99, 0);
        Due.is("-1", -1000, Due.wear(x, "-1*16"));
        Due.is("100", -1002, Due.wear(x, "100*16"));
        Made.rowIs("as told", x, 2, 0, 99, 0);
    }

    private static void oldLine() {
        Due.sentence(ROAD, "an OLD line (an offset -99 to 99, or none: at first)");
        WhiteLine x = Made.road(8);
        Made.rowIs("at first", x, 3, -2, -2, -2, -2, -2, -2, -2, -2);
        Due.is("-99", true, x.old(0, 0, -99));
        Due.is("99", true, x.old(1, 1, 99));
        Due.is("0", true, x.old(2, 2, 0));
        Due.is("100", false, x.old(3, 3, 100));
        Due.is("-101", false, x.old(4, 4, -101));
        Made.rowIs("told", x, 3, 1, 199, 100, -2, -2);
    }

    private static void theLine() {
        Due.sentence(ROAD, "THE LINE: not painted (at first), or an offset (-99 to 99)");
        WhiteLine x = Made.road(8);
        for (int what = 4; what <= 6; what++) {
            Made.rowIs("at first", x, what, -2, -2, -2, -2, -2, -2, -2, -2);
        }
        Due.kerb(x, "99,-99,0*6");
        x.party(0, true, 20);
        x.minutes(1);
        x.party(0, true, -20);
        x.minutes(1);
        Made.rowIs("painted", x, 4, 199, 1, -2);
    }

    private static void theMinute() {
        Due.sentence(ROAD, "THE MINUTE (0 at first)");
        WhiteLine x = new WhiteLine();
        Due.is("at first", 0, x.count(1));
        x.minutes(1);
        Due.is("then", 1, x.count(1));
    }

    private static int kerbOf8(String text) {
        return Due.kerb(Made.road(8), text);
    }

    private static int heightOf8(String text) {
        return Due.height(Made.road(8), text);
    }

    private static int heightOf64(String text) {
        return Due.height(Made.road(64), text);
    }

    private static void textOfARow() {
        Due.sentence(ROW, "a TEXT of at most 120 bytes");
        Due.is("bytes", 120, Made.longestRow().length());
        WhiteLine x = Made.road(64);
        Due.is("120 bytes", 380 + 1 + 25, Due.kerb(x, Made.longestRow()));
        Due.is("the last of them", 1, x.dot(63, 0));
        Due.feed(x, "0" + Made.longestRow());
        Due.is("121 bytes", -1, x.row(0, 121));
        Due.is("it has them still", 140, x.count(7));
    }

    private static void asManyAsDots() {
        Due.sentence(ROW, "VALUES with a , between two, as many as DOTS");
        Due.is("eight", 36, kerbOf8("1,2,3,4,5,6,7,8"));
        Due.is("seven", -1013, kerbOf8("1,2,3,4,5,6,7"));
        Due.is("nine", -6016, kerbOf8("1,2,3,4,5,6,7,8,9"));
        Due.is("64 of 64", 64, heightOf64("1*64"));
        Due.is("63 of 64", -1004, heightOf64("1*63"));
        Due.is("65 of 64", -6005, heightOf64("1*63,1*2"));
        Due.is("; between two", -1001, kerbOf8("1;2*7"));
        Due.is("nothing between two , ", -1002, kerbOf8("1,,2*7"));
        Due.is(", ahead of all", -1000, kerbOf8(",1*8"));
        Due.is(", behind all", -1004, kerbOf8("1*8,"));
    }

    private static void oneOrTwoDigits() {
        Due.sentence(ROW, "a number of one or two digits, of KERB");
        Due.is("one", 56, heightOf8("7*8"));
        Due.is("two", 8 * 70, heightOf8("70*8"));
        Due.is("two, 0 first", 56, heightOf8("07*8"));
        Due.is("two of 0", 0, heightOf8("00*8"));
        Due.is("three", -1002, heightOf8("700*8"));
        Due.is("three, 0 first", -1002, heightOf8("007*8"));
        Due.is("none", -1000, heightOf8("*8"));
    }

    private static void minusAhead() {
        Due.sentence(ROW, "perhaps with - ahead of it (not of 0: 1 at its first digit)");
        Due.is("-1", 8, kerbOf8("-1*8"));
        Due.is("-01", 8, kerbOf8("-01*8"));
        Due.is("-0", -1001, kerbOf8("-0*8"));
        Due.is("-00", -1001, kerbOf8("-00*8"));
        Due.is("-0, and what can't stand there", -1001, kerbOf8("-0x"));
        Due.is("-0 at the end", -1003, kerbOf8("5,-0"));
        Due.is("-0 further on", -1006, kerbOf8("10,5,-0,1*5"));
        Due.is("--", -1001, kerbOf8("--1*8"));
        Due.is("- alone", -1001, kerbOf8("-"));
        Due.is("- behind *", -1002, kerbOf8("1*-8"));
        Due.is("of HEIGHT", -1000, heightOf8("-1*8"));
        Due.is("of HEIGHT, further on", -1002, heightOf8("1,-1*7"));
        Due.is("of WEAR", -1000, Due.wear(Made.road(8), "-1*8"));
    }

    private static void soManyTimes() {
        Due.sentence(ROW, "a VALUE may have * and a number of one or two digits (2 to 64) behind it: so many times");
        WhiteLine x = Made.road(8);
        Due.is("twice, and six times", 2 + 12, Due.height(x, "1*2,2*6"));
        Made.rowIs("so many times", x, 1, 1, 1, 2, 2, 2, 2, 2, 2);
        Due.is("02", 2 + 12, heightOf8("1*02,2*06"));
        Due.is("64 times", 64 * 3, heightOf64("3*64"));
        Due.is("once", -3002, heightOf8("1*1,2*7"));
        Due.is("65 times", -3002, heightOf64("3*65"));
        Due.is("* twice", -1003, heightOf8("1*2*4"));
        Due.is("- is of all of them", 8 * 9, kerbOf8("-9*8"));
    }

    private static void whatCantStand() {
        Due.sentence(ROW, "1 what can't stand there (the end, too; fewer than DOTS)");
        Due.is("at first", -1000, kerbOf8("x"));
        Due.is("behind -", -1001, kerbOf8("-x"));
        Due.is("behind a digit", -1001, kerbOf8("1x"));
        Due.is("behind two digits", -1002, kerbOf8("12x"));
        Due.is("a third digit", -1002, kerbOf8("123"));
        Due.is("behind *", -1002, kerbOf8("1*x"));
        Due.is("behind a number of times", -1003, kerbOf8("1*2x"));
        Due.is("a third digit of times", -1004, kerbOf8("1*022"));
        Due.is("behind ,", -1002, kerbOf8("1,x"));
        Due.is("a blank", -1001, kerbOf8("1 ,2*7"));
        Due.is("a byte of 0", -1000, kerbOf8("\0"));
        Due.is("a byte of 255", -1001, kerbOf8("1\u00ff"));
        Due.is("a byte that is 48 and 128", -1001, kerbOf8("1\u00b0"));
    }

    private static void theEndOfARow() {
        Due.sentence(ROW, "(the end, too; fewer than DOTS)");
        Due.is("behind -", -1001, kerbOf8("-"));
        Due.is("behind *", -1002, kerbOf8("1*"));
        Due.is("behind ,", -1002, kerbOf8("1,"));
        Due.is("behind , that follows all", -1004, kerbOf8("1*8,"));
        Due.is("fewer, behind a digit", -1001, kerbOf8("1"));
        Due.is("fewer, behind two", -1002, kerbOf8("12"));
        Due.is("one fewer", -1003, kerbOf8("1*7"));
        textEnds("1*7,1", 3, -1003);
        textEnds("1*75", 3, -1003);
        textEnds("12", 1, -1001);
        textEnds("1*8", 1, -1001);
        textEnds("1*8", 2, -1002);
        textEnds("-1", 1, -1001);
        textEnds("1,1*7", 2, -1002);
    }

    /** A row by the first n bytes of a tape that goes on as if the text did. */
    private static void textEnds(String tape, int n, int due) {
        WhiteLine x = Made.road(8);
        Due.feed(x, tape);
        Due.is(n + " bytes of " + tape, due, x.row(0, n));
    }

    private static void badTimes() {
        Due.sentence(ROW, "3 a number behind * below 2 or above 64, at its first digit");
        String[] below = {"1*0", "1*1", "1*00", "1*01", "1*1,2*7"};
        for (String text : below) {
            Due.is(text, -3002, kerbOf8(text));
            Due.is(text + " of 64", -3002, heightOf64(text));
        }
        Due.is("1*65", -3002, heightOf64("1*65"));
        Due.is("1*99", -3002, heightOf64("1*99"));
        Due.is("1*64", 64, heightOf64("1*64"));
        Due.is("1*65 of 8: ahead of 6", -3002, kerbOf8("1*65"));
        Due.is("behind two digits", -3003, kerbOf8("12*1"));
        Due.is("behind -", -3003, kerbOf8("-1*1"));
        Due.is("further on", -3006, kerbOf8("1*7,2*1"));
        Due.is("2 is not below", -1003, kerbOf8("1*2"));
    }

    private static void askedWhenDigitsEnd() {
        Due.sentence(ROW, "(asked when its digits end, behind two at the latest)");
        Due.is("what can't stand behind one digit comes later", -3002, kerbOf8("1*1x"));
        Due.is("what can't stand behind two comes later", -3002, heightOf64("1*65x"));
        Due.is("a third digit comes later", -3002, heightOf64("1*651"));
        Due.is("a third digit comes later", -3002, heightOf64("1*012"));
        Due.is("one digit that is below 2 goes on with a second", 12, Due.height(Made.road(12), "1*12"));
        Due.is("64 and a third digit", -1004, heightOf64("1*640"));
    }

    private static void moreThanDots() {
        Due.sentence(ROW, "6 more than DOTS, at the first byte of the VALUE by which they are");
        Due.is("by the first", -6000, kerbOf8("1*9"));
        Due.is("by -", -6000, kerbOf8("-1*9"));
        Due.is("by the second", -6004, kerbOf8("1*7,1*2"));
        Due.is("by the second, -", -6004, kerbOf8("1*7,-1*2"));
        Due.is("by one", -6004, kerbOf8("1*8,1"));
        Due.is("by the ninth", -6016, kerbOf8("1,2,3,4,5,6,7,8,9"));
        Due.is("by the first of two", -6002, kerbOf8("1,1*8,1*9"));
        Due.is("as many", 8, kerbOf8("1*8"));
        Due.is("of 64", -6005, heightOf64("1*64,1"));
        Due.is("of 63", -6000, Due.height(Made.road(63), "1*64"));
    }

    private static void askedWhenAValueEnds() {
        Due.sentence(ROW, "(asked when it ends)");
        Due.is("not at its first byte", -1004, kerbOf8("1*8,x"));
        Due.is("not behind *", -1006, kerbOf8("1*8,2*"));
        Due.is("not ahead of 3", -3006, kerbOf8("1*8,2*1"));
        Due.is("not ahead of -0", -1005, kerbOf8("1*8,-0"));
        Due.is("when its times end", -6004, kerbOf8("1*8,2*2x"));
        Due.is("when two digits of times end", -6000, kerbOf8("1*641"));
        Due.is("when its number ends", -6004, kerbOf8("1*8,2x"));
        Due.is("when its number ends at the end", -6004, kerbOf8("1*8,2"));
    }
}
