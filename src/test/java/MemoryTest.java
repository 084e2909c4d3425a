import com.sun.management.ThreadMXBean;
import java.lang.management.ManagementFactory;

/** All memory is made with the object: its calls, refusals aside, make none. */
public final class MemoryTest {
    private static final int OBJECTS = 20;
    private static final int ROUNDS = 40;

    public static void main(String[] args) {
        Check check = new Check();
        check.sentence("Terms", "All memory is made with the object.");
        ThreadMXBean bean = (ThreadMXBean) ManagementFactory.getThreadMXBean();
        // The first time loads classes, which takes memory that is none of the calls'.
        madeByCalls(bean);
        long made = madeByCalls(bean);
        // The reading itself may make an object or two; a call that made one would make hundreds.
        check.isTrue("calls make no memory, but made bytes: " + made, made < OBJECTS * ROUNDS);
        check.end();
    }

    private static long madeByCalls(ThreadMXBean bean) {
        TripleSums[] objects = new TripleSums[OBJECTS];
        for (int i = 0; i < OBJECTS; i++) {
            objects[i] = new TripleSums();
        }
        long before = bean.getThreadAllocatedBytes(Thread.currentThread().getId());
        for (TripleSums x : objects) {
            for (int i = 0; i < ROUNDS; i++) {
                callEverything(x);
            }
        }
        return bean.getThreadAllocatedBytes(Thread.currentThread().getId()) - before;
    }

    private static void callEverything(TripleSums x) {
        x.add(0, Numbers.GREATEST, Numbers.ONE, 1L, -1000000);
        x.plus(1, 0, 3);
        x.sign(1);
        x.compare(0, 1);
        x.compareSizes(0, 1);
        x.nearest(1);
        x.top(1);
        x.bottom(1);
        x.bit(1, 5);
        x.word(1, 5);
        x.clear(2);
    }
}
