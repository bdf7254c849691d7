import com.sun.management.ThreadMXBean;
import java.lang.management.ManagementFactory;

/** What a whole life of one object makes stays small: its calls live in one room with others. */
public final class RoomTest {
    private static final ThreadMXBean MACHINE = (ThreadMXBean) ManagementFactory.getThreadMXBean();

    private RoomTest() {
    }

    public static void main(String[] args) {
        live();
        long ahead = made();
        live();
        long life = made() - ahead;
        Check.isTrue("a life of 512 calls makes " + life + " bytes", life < 200000);
        BondStores x = busy();
        dearCalls(x);
        ahead = made();
        for (int i = 0; i < 20; i++) {
            dearCalls(x);
        }
        long later = made() - ahead;
        Check.isTrue("once all rows stand, calls make " + later + " bytes", later < 2000);
        Check.end("RoomTest");
    }

    private static long made() {
        return MACHINE.getThreadAllocatedBytes(Thread.currentThread().getId());
    }

    private static void live() {
        BondStores x = busy();
        for (int i = 0; i < 32; i++) {
            dearCalls(x);
        }
    }

    private static BondStores busy() {
        BondStores x = new BondStores();
        for (int i = 0; i < 4; i++) {
            x.guarantor(9999999);
        }
        x.store(0, 1, 2);
        x.store(3, -1, -1);
        x.rate(0, 0, 5);
        x.stock(0, 0, 99999);
        x.stock(1, 0, 99999);
        for (int i = 0; i < 40; i++) {
            x.load(i % 2, 1 - i % 2, 0, 100, 90, i % 10);
        }
        return x;
    }

    private static void dearCalls(BondStores x) {
        x.image(0);
        x.image(1);
        x.would(90, 0);
        x.freed(0, 1000);
        x.rate(0, 500, 7);
        x.explains(0, 0, 777, 0);
        x.best(3, 1);
        x.days(1);
        x.listed(1, 3);
        x.undo();
        x.back(0);
        x.limit(0, 9999998);
        x.cheapest(0, 180, 0);
    }
}
