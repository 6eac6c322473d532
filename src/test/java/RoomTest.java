import java.lang.management.ManagementFactory;
import java.util.Random;

/** All calls of a run live in one room: no call makes anything, and an object is small. */
public final class RoomTest {
    public static void main(String[] args) {
        com.sun.management.ThreadMXBean bean = (com.sun.management.ThreadMXBean) ManagementFactory.getThreadMXBean();
        long before = bean.getCurrentThreadAllocatedBytes();
        WhiteLine[] objects = new WhiteLine[100];
        for (int k = 0; k < objects.length; k++) {
            objects[k] = new WhiteLine();
        }
        long each = (bean.getCurrentThreadAllocatedBytes() - before) / objects.length;
        Due.is("bytes of an object: " + each, true, each < 25000);
        WhiteLine x = objects[0];
        Due.law(x, "p2+t%2(1=1);d9+k/[i-3]+t%7(1=1|h=0);s5(w<3);o9(1=1);l20-9*r(1=1)");
        callAll(x, new Random(1));
        long start = bean.getCurrentThreadAllocatedBytes();
        Random random = new Random(2);
        for (int k = 1; k < objects.length; k++) {
            callAll(objects[k], random);
        }
        long made = bean.getCurrentThreadAllocatedBytes() - start;
        Due.is("bytes made by calls: " + made, true, made < 20000);
        Due.end("RoomTest");
    }

    /** Every call once or more, with whatever arguments. */
    private static void callAll(WhiteLine x, Random r) {
        x.road(8 + r.nextInt(57));
        x.feed(0x312a3861, r.nextInt(), r.nextInt(), r.nextInt(), r.nextInt());
        x.row(r.nextInt(3), 4);
        x.feed(0x7032283c, 0x313d3129, r.nextInt(), r.nextInt(), r.nextInt());
        x.law(8);
        x.feed(0x70322831, 0x3d31293b, 0x64392869, 0x3c332900, 0);
        x.law(15);
        x.old(0, 7, r.nextInt(50));
        x.party(0, true, 3);
        x.party(1, true, -3);
        x.car(r.nextInt(12), r.nextInt(2), r.nextInt(9));
        x.cones(30);
        x.dew(r.nextInt(9));
        x.keep();
        x.minutes(1 + r.nextInt(20));
        for (int k = 0; k < 8; k++) {
            x.tried(30, k);
            x.dot(k, k);
            x.count(k);
            x.smooth(k, 100);
            x.apart(k, k & 1);
            x.seen(k, k & 1, 1 + k);
            x.marked(k, 1 + k);
            x.markings(1 + k, k & 3, k & 1);
            x.joins(-k, k, 1);
            x.begins(k, k % 3);
            x.meet(k, 7 - k, k % 3);
            x.pinned(k, 100 + (k & 1));
            x.believed(k, true);
            x.lost(k, false);
            x.burnFirst(1 + k, k, true, k & 1);
            x.cut(k & 1, 1 + k, k);
            x.renewed(1 + k % 4, 1 + k, 10);
            x.who(k % 3);
        }
        x.latest(200);
        x.feed(1, 2, 3, 4, 5);
        x.dewOdds(0, 9, 20, 0);
        x.feed(0, 0, 0, 0, 0);
        x.lights(10, 3, 0);
        x.check(0);
        x.burns(0, 7);
        x.undo();
    }
}
