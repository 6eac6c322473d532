/** Terms, part 3: each sentence on KEPT, UNDONE, CHECK and an object's own memory. */
public final class KeptEdgesTest {
    public static void main(String[] args) {
        keptIsAll();
        keptLast();
        check();
        ownMemory();
        Due.end("KeptEdgesTest");
    }

    private static void keptIsAll() {
        Due.sentence("Terms, KEPT", "KEPT: DOTS, rows, OLD line, THE LINE, PARTIES, CARS, CONES, DEW, THE MINUTE");
        WhiteLine x = Made.busy();
        int[] before = Made.allOf(x);
        x.keep();
        x.road(20);
        x.old(0, 19, 9);
        x.party(0, false, 1);
        x.party(1, true, 1);
        x.car(3, 0, 7);
        x.car(4, 0, 8);
        x.cones(1);
        x.dew(-1);
        x.minutes(30);
        x.undo();
        Made.isAs("undone", before, x);
        Due.is("what was being painted goes on", 2, x.minutes(1));
        theLastDotAndCar();
    }

    private static void theLastDotAndCar() {
        WhiteLine x = mostKept();
        int[] due = {9, 8, 7, 106, 114, 1, 11, 1, -2, 1, 0};
        lastIs("told", x, due);
        x.keep();
        x.minutes(3);
        x.road(64);
        x.car(11, 0, 9);
        x.undo();
        lastIs("undone", x, due);
        Due.is("four minutes were left when it was kept", 0, x.minutes(3));
        Due.is("four minutes were left when it was kept", 1, x.minutes(1));
    }

    /** 64 dots, of which the last has all that a dot can have, and the first is being painted. */
    private static WhiteLine mostKept() {
        WhiteLine x = Made.by(64, "p5(i=0);d99(1=1)");
        Due.kerb(x, "0*63,9");
        Due.height(x, "0*63,8");
        Due.wear(x, "0*63,7");
        x.old(63, 63, 6);
        x.party(1, true, 5);
        x.car(11, 1, 0);
        x.minutes(1);
        x.party(1, false, 5);
        x.party(0, true, 4);
        x.minutes(1);
        return x;
    }

    private static void lastIs(String when, WhiteLine x, int[] due) {
        for (int what = 0; what < 9; what++) {
            Due.is(when + ": dot(63, " + what + ")", due[what], x.dot(63, what));
        }
        Due.is(when + ": count(41)", due[9], x.count(41));
        Due.is(when + ": count(61)", due[10], x.count(61));
    }

    private static void keptLast() {
        Due.sentence("Terms, KEPT", "UNDONE: as they were KEPT last");
        WhiteLine x = Made.road(8);
        x.party(0, true, 0);
        x.keep();
        x.minutes(2);
        x.keep();
        x.minutes(3);
        x.undo();
        Due.is("kept last", 2, x.count(2));
        x.minutes(4);
        x.undo();
        Due.is("undone again", 2, x.count(2));
    }

    private static void check() {
        Due.sentence("Terms, CHECK", "offsets of THE LINE and 100 (not painted: 0): right, or the first that is not so");
        WhiteLine x = Made.road(8);
        Due.kerb(x, "-99,99,0*6");
        x.party(0, true, 0);
        x.minutes(3);
        Due.is("right", -1, x.check(Due.feed(x, 1, 199, 100, 0, 0, 0, 0, 0)));
        Due.is("the first of two", 1, x.check(Due.feed(x, 1, 198, 101, 0)));
        Due.is("not painted, told at 0 inches", 3, x.check(Due.feed(x, 1, 199, 100, 100)));
        Due.is("painted, told as not", 2, x.check(Due.feed(x, 1, 199, 0, 0)));
        Due.is("the last", 7, x.check(Due.feed(x, 1, 199, 100, 0, 0, 0, 0, 255)));
    }

    private static void ownMemory() {
        Due.sentence("Terms", "All memory is the road's own.");
        WhiteLine one = Made.busy();
        WhiteLine other = Made.busy();
        int[] before = Made.allOf(other);
        one.keep();
        one.burns(0, 7);
        one.minutes(50);
        one.road(9);
        Due.law(one, "p9(1=1)");
        Made.isAs("another one's calls", before, other);
        Due.is("nor is anything kept of it", false, other.undo());
        Due.is("nor its law", 2 * 4 + 9, other.begins(0, 0));
    }
}
