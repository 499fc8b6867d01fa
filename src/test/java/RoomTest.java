import com.sun.management.ThreadMXBean;
import java.lang.management.ManagementFactory;

/** All calls of a run live in one room: an object is made with all that it needs, and calls make nothing more. */
public final class RoomTest {
    private static final String TOWN = "grid 4 by 4 min 5; alley 0 15 min 9 price 4; alley 12 3 min 9 price 2 against;"
            + " street 0 1 2; journey 0 15 carts 9; journey 15 1 carts 3; journey 12 2 carts 7; house 5;";
    private static final int MOST_BYTES_OF_AN_OBJECT = 40000;

    public static void main(String[] args) {
        ThreadMXBean threads = (ThreadMXBean) ManagementFactory.getThreadMXBean();
        long id = Thread.currentThread().getId();
        useAll(TestKit.town(TOWN));
        long before = threads.getThreadAllocatedBytes(id);
        OneWays x = new OneWays();
        long made = threads.getThreadAllocatedBytes(id);
        TestKit.due("a new object is small", made - before < MOST_BYTES_OF_AN_OBJECT ? 1 : 0, 1);
        TestKit.tell(x, TOWN);
        long idle = threads.getThreadAllocatedBytes(id);
        idle = threads.getThreadAllocatedBytes(id) - idle;
        before = threads.getThreadAllocatedBytes(id);
        int answers = useAll(x);
        long used = threads.getThreadAllocatedBytes(id) - before - idle;
        TestKit.due("bytes that " + answers + " made", used, 0);
        TestKit.finish();
    }

    private static int useAll(OneWays x) {
        int n = x.feed(0, 0, 0, 0, 0) + x.text() + x.fault(0) + x.end(0);
        n += x.bar(0) + x.cut(0) + x.can(0) + x.forced(0) + x.forcedWay(0, 1) + x.show(0) + x.whole(0) + x.better(0) + x.ended(0);
        n += x.minutes(0, 0, 15) + x.round(0, 0) + x.sum(0) + x.worst(0) + x.alike(0) + x.ring(0, 3) + x.pair(0) + x.paired(0);
        n += x.total(0, 0) + x.next(0, 0) + x.coin(0, 5) + x.paid(0) + x.fire(0, 15) + x.lastFire(0) + x.reach(0, 20);
        n += x.afternoon(2) + x.arrive(0, 0, 9) + x.sumBack(1) + x.walk(0, 0, 100) + x.change() + x.signs(0) + x.gone(0, 0, 1);
        n += x.load(0, 3) + x.busiest(0) + x.spare(0, 3) + x.spared(0) + x.alley(0, 0) + x.street(0, 0) + x.journey(0, 3);
        n += x.keep(0) + x.row(0, 3, 26) + x.write(0, 0, 1) + x.paste(0, 0, 0, 1, 3) + x.judge(0, 2) + x.gives(0, 0) + x.clear(0);
        n += x.known(0) + x.give(0, 24, 1) + x.way(0, 24) + x.give(0, 24, 0) + x.best(0, 0) + x.best(0, 1) + x.back(0);
        for (int what = 0; what < 12; what++) {
            n += x.count(what);
        }
        return n;
    }
}
