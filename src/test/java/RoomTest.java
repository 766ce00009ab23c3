import com.sun.management.ThreadMXBean;
import java.lang.management.ManagementFactory;

/** What the calls make is counted: an object is small, and no call makes anything. */
public final class RoomTest {
    private static final Due due = new Due();

    public static void main(String[] args) {
        ThreadMXBean bean = (ThreadMXBean) ManagementFactory.getThreadMXBean();
        long sum = everyCall(new WishClerk());
        long before = bean.getCurrentThreadAllocatedBytes();
        WishClerk x = new WishClerk();
        long made = bean.getCurrentThreadAllocatedBytes();
        sum += everyCall(x);
        long after = bean.getCurrentThreadAllocatedBytes();
        due.is("a new object is below 16384 bytes: " + (made - before), made - before < 16384 ? 1 : 0, 1);
        due.is("calls make nothing: " + (after - made), after - made < 1024 ? 1 : 0, 1);
        due.is("the calls were made", sum != 0 ? 1 : 0, 1);
        due.end("RoomTest");
    }

    private static long everyCall(WishClerk x) {
        long sum = x.fault() + x.torn();
        sum += Due.tell(x, "one dead;one barred;one dead;wish 1 1 0;wish 1 1 1;wish 2 2;wish 0 1 2;wish 1 1;needs 2 1;"
                + "needs 4 3;clash 3 2;plan 2;plan 1;plan 0;plan 2;plan 3;plan 4;");
        sum += x.end(0) + x.rule(0) + x.wish(0, 5) + x.plan(0) + x.live(0, true) + x.live(0, false) + x.bar(0, false);
        sum += x.list(4, true) + x.depth(2) + x.asks(4, 2, true) + x.needs(4, 0, true) + x.clash(0, 4, true);
        sum += x.plans(0) + x.cut(5) + x.looks(4) + x.refuses(4);
        for (int p = 0; p < 3; p++) {
            sum += x.row(p, 0) + x.row(p, 11) + x.cheap(p) + x.deep(p) + x.fewest(p, 0) + x.fewest(p, 1);
            sum += x.see(p, true) + x.odds(3, p, 0) + x.odds(3, p, 1);
        }
        sum += x.all() + x.set(0) + x.rid(1) + x.date(2) + x.fits(0) + x.forget(0) + x.wild(3, 60, 0) + x.wild(3, 60, 1);
        sum += x.keep(0) + x.ask(0) + x.take(0) + x.clashes() + x.broken() + x.back(0) + x.keep(1) + x.count(3);
        sum += x.sheet(0, 0, 40) + x.sheet(1, 1, 40) + x.sheet(2, 2, 40) + x.lay(0, 3, 7) + x.read(0, 0, 0, 20);
        return sum;
    }
}
