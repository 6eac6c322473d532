/** Terms, part 2: each sentence on TO BEGIN, ODDS and TO MEET that names an edge. */
public final class PlanEdgesTest {
    private static final String BEGIN = "Terms, TO BEGIN";
    private static final String MEET = "Terms, TO MEET";

    public static void main(String[] args) {
        asIfBare();
        allIsDry();
        latest();
        conesNeeded();
        aheadOfTheDew();
        minutesOfBoth();
        highestAndLast();
        howFarApart();
        Due.end("PlanEdgesTest");
    }

    private static void asIfBare() {
        Due.sentence(BEGIN, "as if it were bare, from a MINUTE on, without CARS and DEW, with CONES enough");
        WhiteLine x = Made.by(8, "p2(1=1);d3(1=1)");
        x.party(0, true, 0);
        x.minutes(9);
        x.car(0, 0, 5);
        x.dew(6);
        x.cones(0);
        Due.is("bare", 5 + 8 + 3, x.begins(5, 0));
        Due.is("cones", 6, x.begins(5, 1));
        Due.is("the same for latest", 5, x.latest(16));
        Due.is("the same for meet", 8, x.meet(0, 0, 1));
        x.party(0, false, 0);
        Due.is("both parties, whether they work or not", 16, x.begins(5, 0));
    }

    private static void allIsDry() {
        Due.sentence(BEGIN, "the first MINUTE in which all is dry (end and d of each)");
        Due.is("d 0", 4, Made.by(8, "d0(1=1)").begins(0, 0));
        Due.is("d 1", 5, Made.by(8, "d1(1=1)").begins(0, 0));
        Due.is("of the one that is dry last, not painted last", 1 + 50, Made.by(8, "d50(i=0)").begins(0, 0));
        Due.is("nine dots: the fifth by one party alone", 5, Made.road(9).begins(0, 0));
    }

    private static void latest() {
        Due.sentence(BEGIN, "the latest MINUTE to begin so that this is not above a told one");
        WhiteLine x = Made.by(8, "d3(1=1)");
        Due.is("just not above", 0, x.latest(7));
        Due.is("one less", -2, x.latest(6));
        Due.is("one more", 1, x.latest(8));
        WhiteLine y = Made.by(8, "d40(t<52)");
        Due.is("of two spells the later one", 51, y.latest(55));
        Due.is("of the earlier one", 10, y.latest(54));
    }

    private static void conesNeeded() {
        Due.sentence(BEGIN, "CONES that are needed: the most DOTS that are being painted or wet in one MINUTE");
        Due.is("two being painted", 2, Made.by(8, "d0(1=1)").begins(0, 1));
        Due.is("two being painted, two wet", 4, Made.by(8, "d1(1=1)").begins(0, 1));
        Due.is("p 2, d 1", 4, Made.by(8, "p2(1=1);d1(1=1)").begins(0, 1));
        Due.is("p 2, d 2", 4, Made.by(8, "p2(1=1);d2(1=1)").begins(0, 1));
        Due.is("p 2, d 3", 6, Made.by(8, "p2(1=1);d3(1=1)").begins(0, 1));
        Due.is("all", 8, Made.by(8, "d99(1=1)").begins(0, 1));
        Due.is("all of 64", 64, Made.by(64, "d99(1=1)").begins(0, 1));
        // In MINUTE 2 dots 0 and 1 are wet, 2 and 7 being painted.
        Due.is("the most are there early", 4, Made.by(8, "d2(i<2);p9(i=2|i>5)").begins(0, 1));
    }

    private static void aheadOfTheDew() {
        Due.sentence("Terms, ODDS", "in that MINUTE or ahead of it");
        WhiteLine x = Made.by(8, "d3(1=1)");
        Due.is("in that minute", 1, odds(x, 7));
        Due.is("ahead of it", 1, odds(x, 8));
        Due.is("behind it", 0, odds(x, 6));
    }

    /** What is above the line if dew comes in one minute for sure. */
    private static int odds(WhiteLine x, int minute) {
        Due.feed(x, 1);
        return x.dewOdds(0, minute, 1, 0);
    }

    private static void minutesOfBoth() {
        Due.sentence(MEET, "PARTY 0 begins in one MINUTE, PARTY 1 in another one, with their offsets");
        WhiteLine x = Made.road(8);
        int[][] due = {{0, 0, 3}, {1, 0, 3}, {0, 1, 4}, {0, 6, 6}, {0, 7, 7}, {0, 600, 7}, {7, 0, 0}, {8, 0, -2}, {600, 0, -2}};
        for (int[] one : due) {
            Due.is("meet(" + one[0] + ", " + one[1] + ", 0)", one[2], x.meet(one[0], one[1], 0));
        }
        x.party(0, false, 20);
        x.party(1, false, -20);
        Due.is("their offsets", 40, x.meet(0, 0, 2));
    }

    private static void highestAndLast() {
        Due.sentence(MEET, "the highest DOT that 0 paints; the MINUTE in which the last one is painted");
        WhiteLine x = Made.by(9, "p4(a=1);p1(a=0)");
        // Party 0 ends at 1 to 7, party 1 at 4 and 8.
        Due.is("the highest", 6, x.meet(0, 0, 0));
        Due.is("the last end", 8, x.meet(0, 0, 1));
        // Party 1 alone ends at 4, 8 and so on to 36.
        Due.is("none", -2, x.meet(100, 0, 0));
        Due.is("the last end", 36, x.meet(100, 0, 1));
    }

    private static void howFarApart() {
        Due.sentence(MEET, "how far apart THE LINE is there from the next DOT");
        WhiteLine x = Made.road(8);
        x.party(0, false, 20);
        x.party(1, false, -20);
        Due.kerb(x, "0,0,0,99,-99,0,0,0");
        Due.is("held, and between 3 and 4", 198, x.meet(0, 0, 2));
        Due.is("between 4 and 5", 79 - 20, x.meet(0, 1, 2));
        Due.is("between 0 and 1", 40, x.meet(7, 0, 2));
        Due.is("between 6 and 7", 40, x.meet(0, 6, 2));
        Due.is("no next one", -2, x.meet(0, 7, 2));
        Due.is("none of party 0's", -2, x.meet(8, 0, 2));
    }
}
