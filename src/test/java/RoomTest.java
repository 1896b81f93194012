import com.sun.management.ThreadMXBean;
import java.lang.management.ManagementFactory;

/** All calls of a run live in one room: an object makes its tables once and uses them again. */
public final class RoomTest {
    private static final int ROUNDS = 28;
    /** Nine tables of 1200 bytes as ints and their rows are some 56,000 bytes. */
    private static final long MOST_MADE = 80_000;

    /** Every call of the face, 18 in a round, and no text or other object of the test's own. */
    private static long run() {
        RefStack x = new RefStack();
        long sum = 0;
        for (int i = 0; i < ROUNDS; i++) {
            long name = 1 + i % 16;
            sum += x.begin() ? 1 : 0;
            sum += x.update(name, RefStack.NONE, 1 + i) ? 1 : 0;
            sum += x.link(1 + (i + 1) % 16, name) ? 1 : 0;
            sum += x.commit();
            sum += x.abort() + x.get(name) + x.target(name) + x.resolve(name);
            sum += x.scan(0L, i) + x.log(name, 0, 0);
            sum += i % 9 == 8 ? x.expire(i) : i % 9 == 4 ? x.compact() : x.tables();
            int high = x.byteAt(0, 2);
            sum += x.size(0) + high;
            sum += x.damage(0, 2, high ^ 128) ? 1 : 0;
            sum += x.sound(0) ? 1 : 0;
            sum += x.damage(0, 2, high) ? 1 : 0;
            sum += x.records(0);
            sum += x.tables();
        }
        return sum;
    }

    static void aRunMakesFewObjects(Due due) {
        ThreadMXBean threads = (ThreadMXBean) ManagementFactory.getThreadMXBean();
        long thread = Thread.currentThread().getId();
        long first = run();
        long before = threads.getThreadAllocatedBytes(thread);
        long second = run();
        long made = threads.getThreadAllocatedBytes(thread) - before;
        System.out.println(made + " bytes of objects made in a run of " + 18 * ROUNDS + " calls");
        due.is("bytes made, at most " + MOST_MADE, made <= MOST_MADE, true);
        due.is("the same answers in sum", second, first);
    }

    public static void main(String[] args) {
        Due.runAll(RoomTest.class);
    }
}
