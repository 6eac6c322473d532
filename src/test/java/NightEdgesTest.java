/** Terms, part 1: each sentence on PARTIES, CARS and MINUTES that names an edge. */
public final class NightEdgesTest {
    private static final String PARTIES = "Terms, PARTIES";
    private static final String CARS = "Terms, CARS";
    private static final String MINUTE = "Terms, A MINUTE goes by";

    public static void main(String[] args) {
        partyZeroRises();
        partyOneFalls();
        neitherAtFirst();
        offsets();
        carsTold();
        waysAndMinutes();
        atTheNextDot();
        byNumbers();
        stopsWorking();
        conesSuffice();
        conesAtFirst();
        pMinutes();
        oneMinuteLess();
        held();
        theMinuteAtWhichItEnds();
        carsByNumbers();
        wetTillDry();
        dAsAsked();
        paintedInThisMinute();
        beingPainted();
        notYetSpoilt();
        dew();
        dewOnTheWet();
        spoiltByDew();
        lastMinute();
        Due.end("NightEdgesTest");
    }

    private static void partyZeroRises() {
        Due.sentence(PARTIES, "0 paints DOTS from the lowest on that is not painted, rising");
        WhiteLine x = Made.painted("p1(1=1)", 0, 8);
        Made.rowIs("rising", x, 5, 1, 2, 3, 4, 5, 6, 7, 8);
        x.burns(2, 2);
        x.burns(4, 5);
        x.burns(7, 7);
        x.party(0, true, 0);
        x.minutes(2);
        Made.rowIs("from the lowest on", x, 5, 1, 2, 9, 4, 10, -2, 7, -2);
        x.burns(0, 0);
        x.minutes(1);
        Due.is("one that is lower now", 11, x.dot(0, 5));
        x.minutes(2);
        Due.is("then the others", 12, x.dot(5, 5));
        Due.is("to the last", 13, x.dot(7, 5));
    }

    private static void partyOneFalls() {
        Due.sentence(PARTIES, "1 from the highest on, falling");
        WhiteLine x = Made.painted("p1(1=1)", 1, 8);
        Made.rowIs("falling", x, 5, 8, 7, 6, 5, 4, 3, 2, 1);
        x.burns(0, 1);
        x.burns(4, 5);
        x.party(1, true, 0);
        x.minutes(2);
        Made.rowIs("from the highest on", x, 5, -2, -2, 6, 5, 10, 9, 2, 1);
        x.burns(7, 7);
        x.minutes(1);
        Due.is("one that is higher now", 11, x.dot(7, 5));
        x.minutes(2);
        Due.is("then the others", 12, x.dot(1, 5));
        Due.is("to the first", 13, x.dot(0, 5));
    }

    private static void neitherAtFirst() {
        Due.sentence(PARTIES, "(each told to work or not: neither at first)");
        WhiteLine x = new WhiteLine();
        Due.is("0 works", 0, x.count(10));
        Due.is("1 works", 0, x.count(11));
        Due.is("none paints", 0, x.minutes(5));
        x.party(1, true, 0);
        Due.is("0 works", 0, x.count(10));
        Due.is("1 works", 1, x.count(11));
        Due.is("one paints", 3, x.minutes(3));
        x.party(1, false, 0);
        Due.is("none again", 0, x.minutes(3));
    }

    private static void offsets() {
        Due.sentence(PARTIES, "each with an offset to the KERB (-20 to 20; 0 at first)");
        WhiteLine x = Made.road(8);
        Due.is("0 at first", 100, x.count(20));
        Due.is("0 at first", 100, x.count(21));
        Due.is("20", true, x.party(0, true, 20));
        Due.is("-20", true, x.party(1, true, -20));
        Due.is("21", false, x.party(0, true, 21));
        Due.is("-21", false, x.party(1, true, -21));
        Due.is("as told", 120, x.count(20));
        Due.is("as told", 80, x.count(21));
        Due.kerb(x, "3*8");
        x.minutes(1);
        Due.is("to the kerb", 123, x.dot(0, 4));
        Due.is("to the kerb", 83, x.dot(7, 4));
    }

    private static void carsTold() {
        Due.sentence(CARS, "CARS 0 to 11: told or not");
        WhiteLine x = Made.by(8, "d99(1=1)");
        x.party(0, true, 0);
        x.party(1, true, 0);
        x.minutes(20);
        Due.is("those that are not told drive over nothing", 0, x.count(3));
        Due.is("car 0", true, x.car(0, 0, 20));
        Due.is("car 11", true, x.car(11, 1, 20));
        Due.is("car -1", false, x.car(-1, 0, 20));
        Due.is("car 12", false, x.car(12, 0, 20));
        for (int i = 1; i < 11; i++) {
            Due.is("not told", -1, x.count(30 + i));
        }
        x.minutes(1);
        Due.is("by car 0", 0, x.dot(0, 6));
        Due.is("by car 11", 11, x.dot(7, 6));
    }

    private static void waysAndMinutes() {
        Due.sentence(CARS, "from DOT 0 (way 0) or the last one (way 1), at a MINUTE (0 to 9999)");
        WhiteLine x = Made.by(9, "p9(1=1)");
        Due.is("at 0", true, x.car(2, 0, 0));
        Due.is("at 0", true, x.car(3, 1, 0));
        Due.is("at 9999", true, x.car(4, 1, 9999));
        Due.is("at -1", false, x.car(5, 0, -1));
        Due.is("at 10000", false, x.car(5, 0, 10000));
        Due.is("way -1", false, x.car(5, -1, 0));
        Due.is("way 2", false, x.car(5, 2, 0));
        x.party(0, true, 0);
        x.party(1, true, 0);
        x.minutes(1);
        Due.is("from dot 0", 2, x.dot(0, 6));
        Due.is("from the last one", 3, x.dot(8, 6));
        WhiteLine y = Made.painted("d99(1=1)", 0, 8);
        y.car(0, 0, 10);
        y.car(1, 1, 10);
        y.minutes(2);
        Due.is("not ahead of its minute", 0, y.count(3));
        y.minutes(1);
        Due.is("in its minute", 2, y.count(3));
    }

    private static void atTheNextDot() {
        Due.sentence(CARS, "at each MINUTE from that on it is at the next DOT");
        WhiteLine x = Made.painted("d99(1=1)", 0, 8);
        x.car(0, 0, 8);
        for (int i = 0; i < 8; i++) {
            x.minutes(1);
            Due.is("so far", i + 1, x.count(3));
            Due.is("at dot " + i, 0, x.dot(i, 6));
        }
        x.burns(0, 7);
        x.party(0, true, 0);
        x.party(1, true, 0);
        x.minutes(8);
        Due.is("behind the last one it is gone", 0, x.count(3));
        WhiteLine y = Made.painted("d99(1=1)", 0, 8);
        y.car(0, 1, 8);
        for (int i = 7; i >= 0; i--) {
            y.minutes(1);
            Due.is("at dot " + i, 0, y.dot(i, 6));
        }
        y.burns(0, 7);
        y.party(0, true, 0);
        y.party(1, true, 0);
        y.minutes(8);
        Due.is("behind dot 0 it is gone", 0, y.count(3));
        WhiteLine z = Made.painted("d99(1=1)", 0, 8);
        z.car(0, 0, 5);
        z.minutes(1);
        Due.is("told late, it is on its way already", 0, z.dot(3, 6));
        Due.is("and was nowhere before", 1, z.count(3));
    }

    private static void byNumbers() {
        Due.sentence(MINUTE, "(1) each PARTY that works, by numbers, and does not paint begins with its next DOT");
        WhiteLine x = Made.by(8, "p2(1=1)");
        x.party(0, true, 0);
        x.minutes(16);
        x.burns(5, 5);
        x.party(1, true, 0);
        x.party(0, true, 0);
        x.minutes(1);
        Due.is("of one dot that is left, party 0", 0, x.dot(5, 8));
        Due.is("party 1 has none", 0, x.count(11));
        WhiteLine y = Made.by(8, "p3(1=1)");
        y.party(0, true, 0);
        y.minutes(2);
        y.party(1, true, 0);
        y.minutes(1);
        Due.is("one that paints does not begin", -2, y.dot(1, 8));
        Due.is("one that does not does", 1, y.dot(7, 8));
        y.minutes(1);
        Due.is("then the next", 0, y.dot(1, 8));
    }

    private static void stopsWorking() {
        Due.sentence(MINUTE, "(none is left that is neither painted nor being painted: it stops working)");
        WhiteLine x = Made.by(8, "p9(i=7)");
        x.party(0, true, 0);
        x.party(1, true, 0);
        x.minutes(7);
        Due.is("all but one are painted", 7, x.count(2));
        Due.is("party 0 works till it looks", 1, x.count(10));
        x.minutes(1);
        Due.is("the last is being painted", 1, x.dot(7, 8));
        Due.is("party 0 stopped", 0, x.count(10));
        Due.is("party 1 works", 1, x.count(11));
        x.minutes(1);
        Due.is("all are painted", 8, x.count(2));
        Due.is("party 1 works till it looks", 1, x.count(11));
        x.minutes(1);
        Due.is("party 1 stopped", 0, x.count(11));
        x.party(1, true, 0);
        x.cones(0);
        x.minutes(1);
        Due.is("it stops without cones, too", 0, x.count(11));
        x.cones(64);
        x.burns(0, 7);
        Due.is("they do not begin again", 0, x.minutes(5));
    }

    private static void conesSuffice() {
        Due.sentence(MINUTE, "if CONES suffice: DOTS that are being painted or wet are fewer than CONES");
        WhiteLine x = Made.by(8, "d3(1=1)");
        x.party(0, true, 0);
        x.cones(0);
        Due.is("none", 0, x.minutes(3));
        Due.is("it works", 1, x.count(10));
        x.cones(1);
        Due.is("none is wet", 1, x.minutes(1));
        Due.is("one is wet", 0, x.minutes(3));
        Due.is("it is dry", 1, x.minutes(1));
        x.cones(2);
        Due.is("one is wet, of two", 1, x.minutes(1));
        Due.is("two are wet, of two", 0, x.minutes(2));
        WhiteLine y = Made.by(8, "p3(1=1)");
        y.party(0, true, 0);
        y.party(1, true, 0);
        y.cones(1);
        y.minutes(1);
        Due.is("being painted", 0, y.dot(0, 8));
        Due.is("one is being painted, of one", -2, y.dot(7, 8));
        y.cones(2);
        y.minutes(1);
        Due.is("one is being painted, of two", 1, y.dot(7, 8));
        WhiteLine z = Made.by(8, "d9(a=0);p2(a=1)");
        z.party(0, true, 0);
        z.minutes(1);
        z.party(0, false, 0);
        z.party(1, true, 0);
        z.cones(2);
        z.minutes(1);
        z.party(0, true, 0);
        Due.is("one wet, one being painted, of two", 1, z.minutes(1));
        Due.is("by party 1", 3, z.dot(7, 5));
    }

    private static void conesAtFirst() {
        Due.sentence(MINUTE, "CONES (0 to 64; 64 at first)");
        WhiteLine x = Made.by(64, "d99(1=1)");
        Due.is("at first", 64, x.count(4));
        x.party(0, true, 0);
        Due.is("enough for all", 64, x.minutes(64));
        Due.is("all wet", 64, x.tried(1, 2));
        Due.is("0", true, x.cones(0));
        Due.is("64", true, x.cones(64));
        Due.is("-1", false, x.cones(-1));
        Due.is("65", false, x.cones(65));
        Due.is("as told", 64, x.count(4));
        x.cones(63);
        x.burns(0, 0);
        x.party(0, true, 0);
        Due.is("63 wet, of 63", 0, x.minutes(1));
        x.cones(64);
        Due.is("63 wet, of 64", 1, x.minutes(1));
    }

    private static void pMinutes() {
        Due.sentence(MINUTE, "it has p MINUTES with it");
        for (int p = 1; p <= 9; p++) {
            WhiteLine x = Made.by(8, "p" + p + "(1=1)");
            x.party(0, true, 0);
            Due.is("one less than " + p, 0, p == 1 ? 0 : x.minutes(p - 1));
            Due.is("p " + p, 1, x.minutes(1));
            Due.is("its end", p, x.dot(0, 5));
        }
        WhiteLine y = Made.by(8, "p5(1=1)");
        y.party(0, true, 0);
        y.minutes(1);
        Due.law(y, "p1(1=1)");
        Due.is("p as it was when it began", 0, y.minutes(3));
        Due.is("p as it was when it began", 1, y.minutes(1));
        Due.is("the next by the new one", 1, y.minutes(1));
    }

    private static void oneMinuteLess() {
        Due.sentence(MINUTE, "(2) Each that paints has one MINUTE less; with none left the DOT is painted");
        WhiteLine x = Made.by(8, "p2(1=1)");
        x.party(0, true, 0);
        x.party(1, true, 0);
        x.minutes(1);
        Due.is("one left", -2, x.dot(0, 4));
        Due.is("one left", 0, x.dot(0, 8));
        x.minutes(1);
        Due.is("none left: painted", 100, x.dot(0, 4));
        Due.is("none left: painted", 100, x.dot(7, 4));
        Due.is("not being painted", -2, x.dot(0, 8));
        x.cones(0);
        x.minutes(3);
        Due.is("no cone for the next", 2, x.count(2));
        x.cones(64);
        x.minutes(1);
        x.cones(0);
        x.minutes(1);
        Due.is("what is begun is ended without cones", 4, x.count(2));
    }

    private static void held() {
        Due.sentence(MINUTE, "offset KERB and that of the PARTY (held in -99 to 99)");
        WhiteLine x = Made.road(8);
        Due.kerb(x, "79,80,99,-79,-80,-99,0,-99");
        x.party(0, true, 20);
        x.minutes(3);
        x.party(0, true, -20);
        x.minutes(3);
        x.party(0, true, 20);
        x.minutes(2);
        Made.rowIs("held", x, 4, 199, 199, 199, 1, 1, 1, 120, 21);
    }

    private static void theMinuteAtWhichItEnds() {
        Due.sentence(MINUTE, "the MINUTE is that at which it ends (THE MINUTE and 1)");
        WhiteLine x = Made.by(8, "p1(i=0);p3(1=1)");
        x.minutes(5);
        x.party(0, true, 0);
        x.minutes(1);
        Due.is("begun at 5", 6, x.dot(0, 5));
        Due.is("THE MINUTE", 6, x.count(1));
        x.minutes(3);
        Due.is("begun at 6", 9, x.dot(1, 5));
        for (int k = 0; k < 17; k++) {
            x.minutes(600);
        }
        x.burns(0, 7);
        Due.is("the last MINUTE", 9999, x.count(1));
        WhiteLine y = Made.road(8);
        for (int k = 0; k < 16; k++) {
            y.minutes(600);
        }
        y.minutes(398);
        y.party(1, true, 0);
        y.minutes(600);
        Due.is("painted in the last that goes by", 9999, y.dot(7, 5));
    }

    private static void carsByNumbers() {
        Due.sentence(MINUTE, "(3) Each CAR, by numbers, that is at a DOT in this MINUTE");
        WhiteLine x = Made.painted("d99(1=1)", 0, 8);
        x.car(11, 0, 8);
        x.car(5, 0, 8);
        x.car(7, 0, 8);
        x.car(6, 1, 8);
        x.minutes(1);
        Due.is("the lowest number", 5, x.dot(0, 6));
        Due.is("the other end", 6, x.dot(7, 6));
        WhiteLine y = Made.painted("d99(1=1)", 0, 8);
        y.car(9, 1, 8);
        y.car(1, 0, 12);
        y.minutes(4);
        Due.is("not yet", -2, y.dot(3, 6));
        y.minutes(4);
        Made.rowIs("who was there first, whatever its number", y, 6, 1, 1, 9, 9, 9, 9, 9, 9);
    }

    private static void wetTillDry() {
        Due.sentence(MINUTE, "wet (painted, THE MINUTE less than d behind its end");
        for (int d = 0; d <= 4; d++) {
            for (int late = 0; late <= 5; late++) {
                WhiteLine x = Made.painted("d" + d + "(1=1)", 0, 1);
                x.car(0, 0, 1 + late);
                Due.is("wet now, by d " + d, d > 0 ? 1 : 0, x.dot(0, 7));
                x.minutes(6);
                Due.is("a car " + late + " behind the end, d " + d, late < d ? 0 : -2, x.dot(0, 6));
            }
        }
        WhiteLine y = Made.painted("d99(1=1)", 0, 1);
        y.minutes(98);
        Due.is("98 behind its end", 1, y.dot(0, 7));
        y.minutes(1);
        Due.is("99 behind its end", 0, y.dot(0, 7));
    }

    private static void dAsAsked() {
        Due.sentence(MINUTE, "d as it was asked then");
        WhiteLine x = Made.by(8, "d4+k(1=1)");
        Due.kerb(x, "2*8");
        x.party(0, true, 0);
        x.minutes(1);
        x.party(0, false, 0);
        Due.law(x, "d1(1=1)");
        Due.kerb(x, "0*8");
        x.minutes(5);
        Due.is("wet by 4 + 2", 1, x.dot(0, 7));
        x.minutes(1);
        Due.is("dry by 4 + 2", 0, x.dot(0, 7));
        Due.law(x, "d99(1=1)");
        Due.is("not wet again", 0, x.dot(0, 7));
    }

    private static void paintedInThisMinute() {
        Due.sentence(MINUTE, "one that (2) painted in this MINUTE is, whatever d");
        WhiteLine x = Made.by(8, "d0(1=1)");
        x.party(0, true, 0);
        x.car(4, 0, 0);
        x.minutes(1);
        Due.is("by the car", 4, x.dot(0, 6));
        Due.is("dry behind it", 0, x.dot(0, 7));
        WhiteLine y = Made.by(8, "d0(1=1)");
        y.party(0, true, 0);
        y.dew(0);
        y.minutes(1);
        Due.is("by the dew", 12, y.dot(0, 6));
        WhiteLine z = Made.by(8, "d0(1=1)");
        z.party(0, true, 0);
        z.car(4, 0, 1);
        z.dew(1);
        z.minutes(1);
        z.party(0, false, 0);
        z.minutes(3);
        Due.is("a minute later it is dry", -2, z.dot(0, 6));
    }

    private static void beingPainted() {
        Due.sentence(MINUTE, "or being painted, the CAR drives over it");
        for (int when = 0; when < 4; when++) {
            WhiteLine x = Made.by(8, "p4(1=1)");
            x.party(0, true, 0);
            x.car(9, 0, when);
            x.minutes(when);
            x.minutes(1);
            Due.is("in its minute " + when, 9, x.dot(0, 6));
            Due.is("spoilt ones", 1, x.count(3));
            x.minutes(4 - when);
            Due.is("spoilt as it is painted", 9, x.dot(0, 6));
        }
        WhiteLine y = Made.by(8, "p4(1=1)");
        y.minutes(1);
        y.party(0, true, 0);
        y.car(9, 0, 0);
        y.minutes(9);
        Due.is("where it is bare a car spoils nothing", 0, y.count(3));
    }

    private static void notYetSpoilt() {
        Due.sentence(MINUTE, "SPOILT, by it, if it is not yet");
        WhiteLine x = Made.painted("d99(1=1)", 0, 8);
        x.car(8, 0, 8);
        x.car(2, 0, 9);
        x.dew(12);
        x.minutes(9);
        Made.rowIs("by the first, or by dew ahead of it", x, 6, 8, 8, 8, 8, 8, 12, 12, 12);
        Due.is("once each", 8, x.count(3));
    }

    private static void dew() {
        Due.sentence(MINUTE, "(4) DEW (a MINUTE, or none: at first)");
        WhiteLine x = Made.painted("d99(1=1)", 0, 8);
        Due.is("none at first", -2, x.count(5));
        x.minutes(50);
        Due.is("none fell", 0, x.count(3));
        x.dew(58);
        Due.is("told", 58, x.count(5));
        x.minutes(1);
        Due.is("in that minute", 8, x.count(3));
        WhiteLine y = Made.by(8, "d99(1=1)");
        y.dew(0);
        y.party(0, true, 0);
        y.minutes(1);
        Due.is("minute 0", 12, y.dot(0, 6));
        y.minutes(1);
        Due.is("not in the next", -2, y.dot(1, 6));
    }

    private static void dewOnTheWet() {
        Due.sentence(MINUTE, "in that MINUTE all that is wet is SPOILT");
        WhiteLine x = Made.by(8, "d2(1=1);p3(a=1)");
        x.party(0, true, 0);
        x.party(1, true, 0);
        x.dew(4);
        x.minutes(4);
        Due.is("not ahead of it", 0, x.count(3));
        x.minutes(1);
        // Dot i ended at i + 1, dot 7 at 3; at 4 dots 3 and 7 are 0 and 1 behind, dot 2 is 1, dot 1 is 2 behind.
        Made.rowIs("the wet ones", x, 6, -2, -2, 12, 12, 12, -2, -2, 12);
        Due.is("one is being painted, not wet", 1, x.dot(6, 8));
        x.minutes(5);
        Due.is("not behind it", 4, x.count(3));
        WhiteLine all = Made.by(64, "d99(1=1)");
        all.party(0, true, 0);
        all.dew(64);
        all.minutes(64);
        Due.is("none of 64", 0, all.count(3));
        all.minutes(1);
        Due.is("all of 64", 64, all.count(3));
        Due.is("the last of 64", 12, all.dot(63, 6));
    }

    private static void spoiltByDew() {
        Due.sentence(MINUTE, "(by 12), if it is not yet");
        WhiteLine x = Made.painted("d99(1=1)", 0, 8);
        x.car(3, 0, 8);
        x.dew(9);
        x.minutes(1);
        Due.is("by the car, a minute ahead", 3, x.dot(0, 6));
        x.minutes(1);
        Made.rowIs("in one minute the car is first", x, 6, 3, 3, 12, 12, 12, 12, 12, 12);
    }

    private static void lastMinute() {
        Due.sentence(MINUTE, "(5) THE MINUTE is one more (9999 at most: then none goes by)");
        WhiteLine x = Made.by(8, "d99(1=1)");
        for (int k = 0; k < 16; k++) {
            x.minutes(600);
        }
        Due.is("THE MINUTE", 9600, x.count(1));
        x.minutes(397);
        x.party(0, true, 0);
        x.dew(9999);
        x.car(0, 0, 9999);
        Due.is("two more", 2, x.minutes(600));
        Due.is("THE MINUTE", 9999, x.count(1));
        int[] before = Made.allOf(x);
        Due.is("none", 0, x.minutes(1));
        Due.is("none", 0, x.minutes(600));
        Made.isAs("none goes by", before, x);
        Due.is("none is tried", 2, x.tried(600, 0));
        Due.is("no dew, no car", 0, x.count(3));
        Due.is("wet for ever", 2, x.tried(600, 2));
    }
}
