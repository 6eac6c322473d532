/** Terms, part 1: each sentence on THE LAW that names an edge. */
public final class LawEdgesTest {
    private static final String LAW = "Terms, THE LAW";
    private static final String FAULTS = "Terms, FAULTS of THE LAW";

    public static void main(String[] args) {
        textOfALaw();
        noBlanks();
        noneAtFirst();
        clauses();
        firstThatHolds();
        boundsOfP();
        boundsOfD();
        boundsOfS();
        boundsOfOAndL();
        beyondBounds();
        noneHolds();
        parts();
        pieces();
        negations();
        comparisons();
        termsAndFactors();
        fromTheLeft();
        digits();
        lettersOfADot();
        kerbAhead();
        minuteOfTheLaw();
        parties();
        rain();
        notTold();
        wrapsAround();
        dividedByZero();
        conditionRefused();
        throughAll();
        expressionRefused();
        asMuchAsMatters();
        firstFault();
        whatCantStand();
        theEnd();
        sixthDigit();
        seventeenthClause();
        seventhOpen();
        clauseCounts();
        notIsOpen();
        expressionAhead();
        Due.end("LawEdgesTest");
    }

    private static int law(String text) {
        return Due.law(Made.road(8), text);
    }

    /** What an E without letters of a dot comes to by d: four dots each are painted at 4. */
    private static int worth(String text) {
        return Made.by(8, "d" + text + "(1=1)").begins(0, 0) - 4;
    }

    private static void isWorth(int due, String text) {
        Due.is("E " + text, due, worth(text));
    }

    private static void holds(boolean due, String text) {
        Due.is("C " + text, due, Made.by(8, "d9(" + text + ")").begins(0, 0) == 4 + 9);
    }

    /** When the first dot of a road whose dots take p each is painted. */
    private static int minutesOfP(String text) {
        WhiteLine x = Made.by(8, text);
        x.party(0, true, 0);
        x.minutes(20);
        return x.dot(0, 5);
    }

    private static void textOfALaw() {
        Due.sentence(LAW, "a TEXT of at most 240 bytes");
        String text = "d00" + "+1".repeat(116) + "(1=1)";
        Due.is("bytes", 240, text.length());
        WhiteLine x = Made.road(8);
        Due.is("240 bytes", 1, Due.law(x, text));
        Due.is("by it", 4 + 99, x.begins(0, 0));
        Due.feed(x, "p" + "[".repeat(240));
        Due.is("241 bytes", -1, x.law(241));
        Due.is("it has them still", 260, x.count(7));
        Due.is("240 of them", -5007, x.law(240));
    }

    private static void noBlanks() {
        Due.sentence(LAW, "no blanks");
        Due.is("ahead", -1000, law(" p1(1=1)"));
        Due.is("behind the letter", -1001, law("p 1(1=1)"));
        Due.is("behind the E", -1002, law("p1 (1=1)"));
        Due.is("behind (", -1003, law("p1( 1=1)"));
        Due.is("ahead of =", -1004, law("p1(1 =1)"));
        Due.is("behind =", -1005, law("p1(1= 1)"));
        Due.is("ahead of )", -1006, law("p1(1=1 )"));
        Due.is("at the end", -1007, law("p1(1=1) "));
        Due.is("behind ;", -1008, law("p1(1=1); d1(1=1)"));
        Due.is("a line's end", -1007, law("p1(1=1)\n"));
    }

    private static void noneAtFirst() {
        Due.sentence(LAW, "(none at first)");
        WhiteLine x = new WhiteLine();
        Due.is("clauses", 0, x.count(6));
        Due.is("p is 1, d is 0", 8, x.begins(0, 0));
        Due.height(x, "0*5,9,0*4,9,0*5");
        Due.is("s is 0", 16, x.markings(1, 3, 0));
        x.old(0, 15, 9);
        x.party(0, true, 0);
        x.minutes(1);
        Due.is("o and l are 0", 0, x.believed(0, true));
        Due.is("dry at once", 0, x.dot(0, 7));
    }

    private static String laws(int n) {
        return ";s1(1=1)".repeat(n).substring(1);
    }

    private static void clauses() {
        Due.sentence(LAW, "CLAUSES (16 at most) with a ; (59) between two");
        Due.is("one", 1, law(laws(1)));
        Due.is("16", 16, law(laws(16)));
        Due.is("17", -4128, law(laws(17)));
        Due.is("nothing between two", -1007, law("s1(1=1)s1(1=1)"));
        Due.is(", between two", -1007, law("s1(1=1),s1(1=1)"));
        Due.is(": between two", -1007, law("s1(1=1):s1(1=1)"));
        Due.is("59 between two", 2, law("s1(1=1)" + (char) 59 + "s1(1=1)"));
        Due.is("; behind the last", -1008, law("s1(1=1);"));
        Due.is("; ahead of the first", -1000, law(";s1(1=1)"));
    }

    private static void firstThatHolds() {
        Due.sentence(LAW, "of the first one of a letter whose C holds the E");
        Due.is("the second", 4 + 6, Made.by(8, "d5(1=2);d6(1=1);d7(1=1)").begins(0, 0));
        Due.is("the first", 4 + 5, Made.by(8, "d5(1=1);d6(1=1);d7(1=1)").begins(0, 0));
        Due.is("the last", 4 + 7, Made.by(8, "d5(1=2);d6(1=2);d7(1=1)").begins(0, 0));
        Due.is("of this letter", 4 + 7, Made.by(8, "s5(1=1);o6(1=1);l8(1=1);d7(1=1)").begins(0, 0));
        Due.is("the 16th", 4 + 3, Made.by(8, "d9(1=2);".repeat(15) + "d3(1=1)").begins(0, 0));
    }

    private static void boundsOfP() {
        Due.sentence(LAW, "p MINUTES for painting a DOT (1 to 9)");
        int[] due = {1, 1, 2, 3, 4, 5, 6, 7, 8, 9, 9, 9};
        for (int p = 0; p < due.length; p++) {
            Due.is("p" + p, due[p], minutesOfP("p" + p + "(1=1)"));
        }
        Due.is("p below 0", 1, minutesOfP("p0-3(1=1)"));
    }

    private static void boundsOfD() {
        Due.sentence(LAW, "d MINUTES till it is dry (0 to 99)");
        int[][] due = {{0, 0}, {1, 1}, {98, 98}, {99, 99}, {100, 99}, {99999, 99}};
        for (int[] one : due) {
            isWorth(one[1], "" + one[0]);
        }
        isWorth(0, "0-1");
        WhiteLine x = Made.painted("d0(1=1)", 0, 1);
        Due.is("d 0: dry", 0, x.dot(0, 7));
        WhiteLine y = Made.painted("d1(1=1)", 0, 1);
        Due.is("d 1: wet", 1, y.dot(0, 7));
        y.minutes(1);
        Due.is("d 1: dry", 0, y.dot(0, 7));
    }

    private static void boundsOfS() {
        Due.sentence(LAW, "s how many DOTS one must see ahead so that the line may be broken (0 to 63)");
        WhiteLine x = Made.road(64);
        Due.height(x, "0*62,9,0");
        Due.is("seen, not all", 62, x.seen(0, 0, 1));
        int[][] due = {{0, 3}, {1, 3}, {61, 3}, {62, 3}, {63, 2}, {64, 2}, {99999, 2}};
        for (int[] one : due) {
            Due.law(x, "s" + one[0] + "(1=1)");
            Due.is("s" + one[0], one[1], x.marked(0, 1));
        }
        Due.law(x, "s0-1(1=1)");
        Due.is("s below 0", 3, x.marked(0, 1));
    }

    private static void boundsOfOAndL() {
        Due.sentence(LAW, "o how plain the OLD line is, l how plain THE LINE is (0 to 99 each)");
        WhiteLine x = Made.painted("p1(1=1)", 0, 1);
        x.old(0, 0, 5);
        Object[][] due = {{"o99", "l98", 1}, {"o99", "l99", 2}, {"o100", "l99", 2}, {"o99999", "l99", 2},
            {"o98", "l99", 2}, {"o99", "l100", 2}, {"o1", "l0", 1}, {"o0", "l0", 0}, {"o0-1", "l0-9", 0},
            {"o0-9", "l0-1", 0}, {"o0", "l1", 2}};
        for (Object[] one : due) {
            Due.law(x, one[0] + "(1=1);" + one[1] + "(1=1)");
            Due.is(one[0] + " and " + one[1], (Integer) one[2], x.believed(0, false));
        }
    }

    private static void beyondBounds() {
        Due.sentence(LAW, "(beyond its bounds the bound; none: the lower one)");
        Due.is("p above", 9, minutesOfP("p99999*99(1=1)"));
        Due.is("p below", 1, minutesOfP("p0-99999*99(1=1)"));
        isWorth(99, "99999*99");
        isWorth(0, "0-99999*99");
        WhiteLine x = Made.by(8, "o5(1=1)");
        Due.is("none for p and d", 4, x.begins(0, 0));
        Due.height(x, "0,0,9,0,0,9,0,0");
        Due.is("none for s", 3, x.marked(3, 1));
        x.party(0, true, 0);
        x.minutes(1);
        Due.is("none for l", 0, x.believed(0, false));
    }

    private static void noneHolds() {
        Due.sentence(LAW, "none: the lower one");
        Due.is("p", 1, minutesOfP("p9(1=2);p8(1>1)"));
        Due.is("d", 4, Made.by(8, "d9(1=2);d8(1<1)").begins(0, 0));
        WhiteLine x = Made.by(8, "s9(1=2)");
        Due.height(x, "0,0,9,0,0,9,0,0");
        Due.is("s", 3, x.marked(3, 1));
        x.old(0, 7, 0);
        Due.law(x, "o9(1=2)");
        Due.is("o", 0, x.believed(0, false));
    }

    private static void parts() {
        Due.sentence(LAW, "PARTS with a | between two, one of which must hold");
        holds(true, "1=1|1=2");
        holds(true, "1=2|1=1");
        holds(true, "1=1|1=1");
        holds(false, "1=2|1=2");
        holds(true, "1=2|1=2|1=1");
        Due.is("| ahead", -1003, law("p1(|1=1)"));
        Due.is("| behind", -1007, law("p1(1=1|)"));
        Due.is("| twice", -1007, law("p1(1=1||1=1)"));
    }

    private static void pieces() {
        Due.sentence(LAW, "PIECES with an & between two, all of which must");
        holds(true, "1=1&1=1");
        holds(false, "1=1&1=2");
        holds(false, "1=2&1=1");
        holds(false, "1=1&1=1&1=2");
        holds(true, "1=1|1=1&1=2");
        holds(false, "(1=1|1=1)&1=2");
        Due.is("& ahead", -1003, law("p1(&1=1)"));
        Due.is("& behind", -1007, law("p1(1=1&)"));
    }

    private static void negations() {
        Due.sentence(LAW, "a PIECE: !PIECE, (C), or E, one of < > =, and E");
        holds(false, "!1=1");
        holds(true, "!!1=1");
        holds(true, "!1=2");
        holds(false, "!1=2&1=2");
        holds(true, "!(1=2&1=2)");
        holds(true, "((1=1))");
        Due.is("! alone", -1004, law("p1(!)"));
        Due.is("() empty", -1004, law("p1(())"));
        Due.is("E alone", -1004, law("p1(1)"));
        Due.is("three E", -1006, law("p1(1=1=1)"));
    }

    private static void comparisons() {
        Due.sentence(LAW, "E, one of < > =, and E");
        holds(true, "4<5");
        holds(false, "5<5");
        holds(false, "6<5");
        holds(false, "4>5");
        holds(false, "5>5");
        holds(true, "6>5");
        holds(false, "4=5");
        holds(true, "5=5");
        holds(false, "6=5");
        holds(true, "0-1<0");
        holds(true, "32768*65536<0-1");
        Due.is("<=", -1005, law("p1(1<=1)"));
        Due.is("no sign", -1004, law("p1(1~1)"));
    }

    private static void termsAndFactors() {
        Due.sentence(LAW, "E: TERMS with + or - between two; a TERM: FACTORS with one of * / % between two");
        isWorth(5, "5");
        isWorth(7, "5+2");
        isWorth(3, "5-2");
        isWorth(10, "5*2");
        isWorth(2, "5/2");
        isWorth(1, "5%2");
        isWorth(5 + 14 - 3 + 1, "5+2*7-10/3+9%4");
        Due.is("- ahead", -1001, law("d-5(1=1)"));
        Due.is("+ ahead", -1001, law("d+5(1=1)"));
        Due.is("two of them", -1003, law("d5+-2(1=1)"));
        Due.is("two of them", -1003, law("d5**2(1=1)"));
        Due.is("nothing behind", -1003, law("d5%(1=1)"));
        Due.is("another sign", -1002, law("d5^2(1=1)"));
    }

    private static void fromTheLeft() {
        Due.sentence(LAW, "from the left on");
        isWorth(13, "20-3-4");
        isWorth(21, "20-3+4");
        isWorth(12, "20/3*2");
        isWorth(3, "20%7/2");
        isWorth(2, "2*7%4");
        isWorth(5, "100/5/4");
        isWorth(14, "2+3*4");
        isWorth(20, "[2+3]*4");
    }

    private static void digits() {
        Due.sentence(LAW, "a number of one to five digits");
        isWorth(7, "7");
        isWorth(7, "00007");
        isWorth(0, "00000");
        isWorth(99, "99999/1010");
        isWorth(9, "99999%10");
        holds(true, "99999>99998");
        Due.is("six", -2006, law("p000007(1=1)"));
    }

    /** Which dots a C holds at: those at which the OLD line is plain by it. */
    private static void holdsAt(WhiteLine x, String condition, String dots) {
        Due.law(x, "o1(" + condition + ")");
        for (int i = 0; i < 8; i++) {
            Due.is(condition + " at " + i, dots.indexOf('0' + i) >= 0 ? 1 : 0, x.believed(i, false));
        }
    }

    private static void lettersOfADot() {
        Due.sentence(LAW, "i the DOT, n DOTS in all, k KERB, h HEIGHT, w WEAR of it");
        WhiteLine x = Made.road(8);
        x.old(0, 7, 0);
        Due.kerb(x, "99,-99,0*6");
        Due.height(x, "0*6,99,1");
        Due.wear(x, "0,1,0*5,99");
        holdsAt(x, "i=0", "0");
        holdsAt(x, "i=7", "7");
        holdsAt(x, "i+1=n", "7");
        holdsAt(x, "n=8", "01234567");
        holdsAt(x, "k=99", "0");
        holdsAt(x, "k=0-99", "1");
        holdsAt(x, "h=99", "6");
        holdsAt(x, "h=1", "7");
        holdsAt(x, "w=99", "7");
        holdsAt(x, "w=1", "1");
        x.road(64);
        x.old(63, 63, 0);
        Due.law(x, "o1(i=63&n=64)");
        Due.is("the last of 64", 1, x.believed(63, false));
    }

    private static void kerbAhead() {
        Due.sentence(LAW, "c by how much KERB is otherwise than at the DOT ahead (the amount; of DOT 0: 0)");
        WhiteLine x = Made.road(8);
        x.old(0, 7, 0);
        Due.kerb(x, "99,-99,-99,5,3,0*2,-7");
        holdsAt(x, "c=198", "1");
        holdsAt(x, "c=0", "026");
        holdsAt(x, "c=104", "3");
        holdsAt(x, "c=2", "4");
        holdsAt(x, "c=3", "5");
        holdsAt(x, "c=7", "7");
        holdsAt(x, "c<0", "");
    }

    private static void minuteOfTheLaw() {
        Due.sentence(LAW, "t THE MINUTE (in p, d when its painting begins, ends)");
        // Begun at 0 by 1 + 2, ended at 3; d is 10 * 3: dry at 33.
        WhiteLine x = Made.by(8, "p3(t=0);p1(1=1);d10*t(1=1)");
        x.party(0, true, 0);
        x.minutes(3);
        Due.is("p by t 0", 3, x.dot(0, 5));
        x.party(0, false, 0);
        x.minutes(29);
        Due.is("wet at 32", 1, x.dot(0, 7));
        x.minutes(1);
        Due.is("dry at 33", 0, x.dot(0, 7));
        Due.law(x, "o9(t=33);l9(t=33);s9(t=33)");
        Due.is("t in l", 2, x.believed(0, false));
        x.old(1, 1, 0);
        Due.is("t in o", 1, x.believed(1, false));
        Due.height(x, "0,0,9,0,0,9,0,0");
        Due.is("t in s", 0, x.marked(3, 1));
        x.minutes(1);
        Due.is("t in s, a minute later", 3, x.marked(3, 1));
        Due.is("t in l, a minute later", 0, x.believed(0, false));
    }

    private static void parties() {
        Due.sentence(LAW, "a which party (0, 1; in p, d)");
        WhiteLine x = Made.by(8, "p2+3*a(1=1);d4+6*a(1=1)");
        x.party(0, true, 0);
        x.party(1, true, 0);
        x.minutes(5);
        Due.is("p of party 0", 2, x.dot(0, 5));
        Due.is("p of party 1", 5, x.dot(7, 5));
        x.party(0, false, 0);
        x.party(1, false, 0);
        Due.is("d of party 0: wet at 5", 1, x.dot(0, 7));
        x.minutes(1);
        Due.is("d of party 0: dry at 6", 0, x.dot(0, 7));
        x.minutes(8);
        Due.is("d of party 1: wet at 14", 1, x.dot(7, 7));
        x.minutes(1);
        Due.is("d of party 1: dry at 15", 0, x.dot(7, 7));
    }

    private static void rain() {
        Due.sentence(LAW, "r whether it rains (1, 0; as told, in o, l)");
        WhiteLine x = Made.painted("l8*r(1=1);o4(r=0)", 0, 1);
        x.old(0, 1, 0);
        Due.is("l, rain", 2, x.believed(0, true));
        Due.is("o, no rain", 1, x.believed(0, false));
        Due.is("o, rain", 0, x.believed(1, true));
        Due.law(x, "o9(r=1)");
        Due.is("o, r is 1", 1, x.believed(1, true));
        Due.is("o, r is 0", 0, x.believed(1, false));
    }

    private static void notTold() {
        Due.sentence(LAW, "(Where they are not told they are 0.)");
        WhiteLine x = Made.by(8, "p5(!r=0);d5(!r=0);s7(!a=0|!r=0);o9(a=0);l9(a=0)");
        Due.is("r in p and d", 4, x.begins(0, 0));
        Due.height(x, "0,0,9,0,0,9,0,0");
        Due.is("a and r in s", 3, x.marked(3, 1));
        x.party(1, true, 0);
        x.old(0, 0, 0);
        x.minutes(1);
        Due.is("r in p, of a night", 1, x.dot(7, 5));
        Due.is("r in d, of a night", 0, x.dot(7, 7));
        Due.is("a in o", 1, x.believed(0, true));
        Due.is("a in l, of party 1's paint", 2, x.believed(7, true));
    }

    private static void wrapsAround() {
        Due.sentence(LAW, "All is reckoned with 32 bits, as the machine does");
        isWorth(9, "99999*99999%100");
        isWorth(3, "65536*65536+3");
        holds(true, "32768*65536<0");
        holds(true, "32768*65536-1>0");
        holds(true, "32767*65536+65535>0");
        holds(true, "32767*65536+65535+1<0");
        holds(true, "32767*65536+65535+1=32768*65536");
        holds(true, "0-32768*65536=32768*65536");
        holds(true, "[32768*65536]/[0-1]=32768*65536");
        holds(true, "[32768*65536]%[0-1]=0");
        isWorth(7, "[0-7]/2+10");
        isWorth(7, "[0-7]%4+10");
        isWorth(3, "7%[0-4]");
        isWorth(9, "7/[0-4]+10");
    }

    private static void dividedByZero() {
        Due.sentence(LAW, "what is divided by 0 is REFUSED");
        for (String by : new String[] {"/0", "%0", "/[5-5]", "%[n-8]", "/[65536*65536]"}) {
            isWorth(0, "9+5" + by);
            holds(false, "5" + by + "=0");
            holds(false, "5" + by + "=5");
        }
        isWorth(0, "9+0/0");
        isWorth(0, "9+0%0");
        isWorth(9, "9+0/1");
    }

    private static void conditionRefused() {
        Due.sentence(LAW, "then the C as a whole does not hold");
        holds(false, "1/0=0|1=1");
        holds(false, "1=1&1/0=0|1=1");
        holds(false, "1=2|1/0=0|1=1");
        holds(false, "1=1&1/0<9&1=1");
        Due.is("the next clause is asked", 4 + 6, Made.by(8, "d5(1/0=0|1=1);d6(1=1)").begins(0, 0));
        Due.is("none is left", 4, Made.by(8, "d5(1/0=0|1=1)").begins(0, 0));
    }

    private static void throughAll() {
        Due.sentence(LAW, "(through any !, ( ) and |)");
        holds(false, "!1/0=0");
        holds(false, "!!1/0=0");
        holds(false, "!(1/0=0)");
        holds(false, "(1/0=0)|1=1");
        holds(false, "((1/0=0|1=1))|1=1");
        holds(false, "!(1=1&!(1%0=1))|1=1");
    }

    private static void expressionRefused() {
        Due.sentence(LAW, "an E is 0");
        isWorth(0, "9+5/0");
        isWorth(0, "5/0+9");
        isWorth(0, "9+[5/[2-2]]*0");
        isWorth(0, "[[9%0]+50]");
        Due.is("p: held in its bounds", 1, minutesOfP("p7+1/0(1=1)"));
        Due.is("the clause holds all the same", 4, Made.by(8, "d7/0(1=1);d9(1=1)").begins(0, 0));
        // Dot 4 is painted at 4, and d is 20 / 1 and 9 there.
        WhiteLine x = Made.by(8, "d20/[i-3]+9(1=1)");
        for (int k = 0; k < 40; k++) {
            Due.is("of that dot alone, however often", 4 + 29, x.begins(0, 0));
        }
    }

    private static void asMuchAsMatters() {
        Due.sentence(LAW, "Of a C as much is asked, from the left, as matters.");
        holds(true, "1=1|1/0=0");
        holds(true, "1=2&1/0=0|1=1");
        holds(true, "1=1|1=1&1/0=0");
        holds(true, "!(1=2&1/0=0)");
        holds(false, "!(1=1|1/0=0)");
        holds(true, "1=2|(1=1|1/0=0)&1=1");
        holds(false, "1/0=0|1=1");
        holds(false, "1/0=0&1=2|1=1");
        holds(false, "1=1&1/0=0|1=1");
        // A PIECE that is asked is asked as a whole.
        holds(false, "1=2/0|1=1");
        holds(false, "0*[1/0]=0|1=1");
    }

    private static void firstFault() {
        Due.sentence(FAULTS, "FAULTS, the first from the left");
        Due.is("2, then 1", -2006, law("p123456(1=1);x"));
        Due.is("1, then 2", -1003, law("p1(x=123456)"));
        Due.is("5, then 1", -5007, law("p[[[[[[[x"));
        Due.is("1, then 5", -1001, law("px[[[[[[["));
        Due.is("2, then 4", -2006, law("s123456(1=1);" + laws(16)));
        Due.is("4, then 2", -4128, law(laws(16) + ";s123456(1=1)"));
        Due.is("1, then 4", -1007, law("s1(1=1)x;" + laws(16)));
    }

    private static void whatCantStand() {
        Due.sentence(FAULTS, "1 what can't stand there (the end, too); 2");
        Object[][] due = {{"x", -1000}, {"i1(1=1)", -1000}, {"P1(1=1)", -1000}, {"(1=1)", -1000}, {"p(1=1)", -1001},
            {"p-1(1=1)", -1001}, {"p1)", -1002}, {"p1[2](1=1)", -1002}, {"pi2(1=1)", -1002}, {"p1+(1=1)", -1003},
            {"p1*/2(1=1)", -1003}, {"p[](1=1)", -1002}, {"p[1)", -1003}, {"p1](1=1)", -1002}, {"p1()", -1003},
            {"p1(1!=1)", -1004}, {"p1(1=!1)", -1005}, {"p1((1)=1)", -1005}, {"p1([1=1])", -1005}, {"p1(p=1)", -1003},
            {"p1(1=1))", -1007}, {"p1(1=1);x", -1008}, {"p1(1=1);;", -1008}, {"p1(1=\u00e9)", -1005},
            {"p\u00b1(1=1)", -1001}, {"p1(1=1)\0", -1007}};
        for (Object[] one : due) {
            Due.is("law " + one[0], (Integer) one[1], law((String) one[0]));
        }
    }

    private static void theEnd() {
        Due.sentence(FAULTS, "(the end, too); 2");
        Object[][] due = {{"p", -1001}, {"p1", -1002}, {"p12345", -1006}, {"p1+", -1003}, {"p[", -1002},
            {"p[1", -1003}, {"p1(", -1003}, {"p1(1", -1004}, {"p1(1=", -1005}, {"p1(1=1", -1006}, {"p1(!", -1004},
            {"p1((1=1)", -1008}, {"p1(1=1&", -1007}, {"p1(1=1|", -1007}, {"p1(1=1);", -1008},
            {"p1(1=1);d", -1009}};
        for (Object[] one : due) {
            Due.is("law " + one[0], (Integer) one[1], law((String) one[0]));
        }
        Object[][] goesOn = {{"p1(1=1)", 6, -1006}, {"p12345", 2, -1002}, {"p1(1=1);d", 8, -1008}, {"p1(1=12)", 7, -1007}};
        for (Object[] one : goesOn) {
            WhiteLine x = Made.road(8);
            Due.feed(x, (String) one[0]);
            Due.is(one[1] + " bytes of " + one[0], (Integer) one[2], x.law((Integer) one[1]));
        }
    }

    private static void sixthDigit() {
        Due.sentence(FAULTS, "2 a sixth digit, at it");
        Due.is("of the E", -2006, law("p123456(1=1)"));
        Due.is("of 0", -2006, law("p000000(1=1)"));
        Due.is("at the end", -2006, law("p123456"));
        Due.is("in the C", -2008, law("p1(123456=1)"));
        Due.is("in the second E", -2010, law("p1(1=123456)"));
        Due.is("in the second clause", -2014, law("p1(1=1);d000000(1=1)"));
        Due.is("of a second number", -2008, law("p1*123456(1=1)"));
        Due.is("five, and a letter", -1006, law("p12345n(1=1)"));
        Due.is("five", 1, law("p12345(12345=12345)"));
    }

    private static void seventeenthClause() {
        Due.sentence(FAULTS, "4 a 17th CLAUSE, at its letter (if that can stand there)");
        Due.is("its letter", -4128, law(laws(16) + ";p"));
        for (String letter : new String[] {"p", "d", "s", "o", "l"}) {
            Due.is("its letter", -4128, law(laws(16) + ";" + letter + "1(1=1)"));
        }
        Due.is("no such letter", -1128, law(laws(16) + ";i1(1=1)"));
        Due.is("the end", -1128, law(laws(16) + ";"));
        Due.is("no ;", -1127, law(laws(16) + "p"));
        Due.is("what comes behind does not matter", -4128, law(laws(16) + ";p(((("));
        Due.is("16 stand", 16, law(laws(16)));
    }

    private static void seventhOpen() {
        Due.sentence(FAULTS, "5 a seventh of ( [ ! that are open in one another, at it");
        Due.is("six (", 1, law("p1((((((1=1))))))"));
        Due.is("seven (", -5008, law("p1(((((((1=1)))))))"));
        Due.is("five !", 1, law("p1(!!!!!1=1)"));
        Due.is("six !", -5008, law("p1(!!!!!!1=1)"));
        Due.is("five [", 1, law("p1(1=[[[[[1]]]]])"));
        Due.is("six [", -5010, law("p1(1=[[[[[[1]]]]]])"));
        Due.is("some of each", 1, law("p1(!(!([1]=1)))"));
        Due.is("some of each", -5008, law("p1(!(!([[1]]=1)))"));
        Due.is("some of each", -5008, law("p1(!(!(!(1=1))))"));
        Due.is("side by side", 1, law("p[1]+[1]+[1]+[1]+[1]+[1]+[1]((1=1)&(1=1)&(1=1)&(1=1)&(1=1)&(1=1))"));
        Due.is("what comes behind does not matter", -5008, law("p1(((((((x"));
        Due.is("where none can stand", -1005, law("p1(1=((((((("));
    }

    private static void clauseCounts() {
        Due.sentence(FAULTS, "(the ( of the CLAUSE counts");
        Due.is("and five", 1, law("p1((((((1=1))))))"));
        Due.is("and six", -5008, law("p1(((((((1=1)))))))"));
        Due.is("of each clause anew", 2, law("p1((((((1=1))))));d1((((((1=1))))))"));
    }

    private static void notIsOpen() {
        Due.sentence(FAULTS, "a ! is open till its PIECE ends");
        Due.is("over its first E", -5008, law("p1(!!!!![1]=1)"));
        Due.is("over its second E", -5010, law("p1(!!!!!1=[1])"));
        Due.is("over both", 1, law("p1(!!!![1]=[1])"));
        Due.is("over its ( )", -5008, law("p1(!!!!!(1=1))"));
        Due.is("not behind &", 1, law("p1(!!!!!1=1&!!!!!1=1)"));
        Due.is("not behind |", 1, law("p1(!!!!!1=1|[[[[[1]]]]]=1)"));
        Due.is("not behind its ( )", 1, law("p1(!!!!(1=1)&!!!!(1=1))"));
        Due.is("nor more behind &", -5017, law("p1(!!!!!1=1&!!!!!!1=1)"));
    }

    private static void expressionAhead() {
        Due.sentence(FAULTS, "the E of a CLAUSE stands ahead of it");
        Due.is("six [", 1, law("p[[[[[[1]]]]]](1=1)"));
        Due.is("seven [", -5007, law("p[[[[[[[1]]]]]]](1=1)"));
        Due.is("six [, and then six", 1, law("p[[[[[[1]]]]]]([[[[[1]]]]]=1)"));
        Due.is("of the second clause", -5015, law("p1(1=1);d[[[[[[[1]]]]]]](1=1)"));
    }
}
