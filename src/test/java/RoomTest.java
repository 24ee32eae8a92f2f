import com.sun.management.ThreadMXBean;
import java.lang.management.ManagementFactory;

/** What a run makes stays small: an object makes all its rows at once, and no call makes any. */
final class RoomTest {
    private static final Check check = new Check();

    public static void main(String[] args) {
        ThreadMXBean threads = (ThreadMXBean) ManagementFactory.getThreadMXBean();
        long me = Thread.currentThread().getId();
        CutDistances warm = new CutDistances();
        allCalls(warm);
        threads.getThreadAllocatedBytes(me);
        long before = threads.getThreadAllocatedBytes(me);
        CutDistances x = new CutDistances();
        long made = threads.getThreadAllocatedBytes(me);
        allCalls(x);
        long after = threads.getThreadAllocatedBytes(me);
        check.holds("an object takes " + (made - before) + " bytes", made - before < 10_000);
        check.holds("its calls take " + (after - made) + " bytes", after - made < 1_000);
        check.end();
    }

    private static void allCalls(CutDistances x) {
        x.points(6);
        for (int k = 0; k < 12; k++) {
            x.put(k % 5, 5, 20 + k);
            x.cut(1 + k, 3);
            x.place(k % 6, k, k);
            x.town();
            x.stretch(2);
            x.paths();
            x.walls(3, k % 5);
            x.wall(3, 9000, 2);
            x.holdWall(k % 6, 3, 5000);
            x.value(k % 6);
            x.roots(k % 6, 2);
            x.root(k % 6, 3);
            x.switched(k % 6, k + 1);
            x.sum(9999, 0);
            x.gauge(k % 5, 63);
            x.spell(k);
            x.row(k % 6, 20);
            x.set(k % 6, k, 1);
            x.judge(k % 6);
            x.wallOf(k % 6, k % 6);
            x.taken(k % 6, 1);
            x.number(k % 6, 3);
            x.hold(k % 6);
            x.lose(k % 6);
            x.triangles(0);
            x.rounds(0);
            x.image();
            x.back();
            x.feed(0x323b3030 + k, 4);
            x.read();
            x.feed(k, 3);
            x.wipe();
            x.undo();
            x.count(2);
            x.at(0, 1);
        }
    }
}
