import com.sun.management.ThreadMXBean;
import java.lang.management.ManagementFactory;

/** A run's room: the object's own rows are few, and no call makes another. */
public final class RoomTest {
    private static final Check check = new Check("RoomTest");
    private static final ThreadMXBean THREADS = (ThreadMXBean) ManagementFactory.getThreadMXBean();

    public static void main(String[] args) {
        long made = 0;
        ClaySlips x = null;
        for (int k = 0; k < 200; k++) {
            long ahead = THREADS.getCurrentThreadAllocatedBytes();
            x = new ClaySlips();
            made = THREADS.getCurrentThreadAllocatedBytes() - ahead;
        }
        check.due("bytes of a new object, " + made, made < 200000 ? 1 : 0, 1);
        for (int k = 0; k < 3; k++) {
            long ahead = THREADS.getCurrentThreadAllocatedBytes();
            allCalls(x);
            made = THREADS.getCurrentThreadAllocatedBytes() - ahead;
        }
        check.due("bytes made by calls, " + made, made < 1000 ? 1 : 0, 1);
        check.end();
    }

    private static void allCalls(ClaySlips x) {
        x.street(3);
        x.water(0, 9);
        x.man(4, 0);
        x.man(2, 1);
        for (int sign = 0; sign < 4; sign++) {
            x.write(0, sign);
            x.write(1, 3 - sign);
        }
        x.fault(0);
        x.step();
        x.run(400, 0, 0);
        x.stops();
        x.again(0);
        x.rubbed(0, 1);
        x.danger(0);
        x.thief(0, 1);
        x.shortest(0, 1, 20, -1);
        x.seen(1, 1);
        x.said(1, 4);
        x.emptied(60, 0, 1);
        x.image(0);
        x.undo();
        x.from(0);
        x.of(0, 0);
        x.in(0);
        x.rub(0);
        x.type(0x7374726565742032L, 8);
        x.type(';', 1);
        x.read();
        x.clear();
        x.status(0);
        x.count(0);
        x.digest();
    }
}
