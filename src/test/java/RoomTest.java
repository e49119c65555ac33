import com.sun.management.ThreadMXBean;
import java.lang.management.ManagementFactory;

/** All calls of a run live in one room: an object is small, and its calls make nothing new. */
public final class RoomTest {
    /** Elements of arrays are bytes or words; the document's limits alone ask for 9,000. */
    private static final long MOST_FOR_OBJECT = 14_000;
    /** The measuring itself takes a little. */
    private static final long MOST_FOR_CALLS = 2_000;

    public static void main(String[] args) {
        Check check = new Check();
        ThreadMXBean threads = (ThreadMXBean) ManagementFactory.getThreadMXBean();
        calls(new PacketGuard());
        long before = threads.getCurrentThreadAllocatedBytes();
        before = threads.getCurrentThreadAllocatedBytes();
        PacketGuard guard = new PacketGuard();
        long made = threads.getCurrentThreadAllocatedBytes();
        calls(guard);
        long after = threads.getCurrentThreadAllocatedBytes();
        System.out.println("object " + (made - before) + " bytes, calls " + (after - made));
        check.holds("an object is small", made - before <= MOST_FOR_OBJECT);
        check.holds("calls make nothing new", after - made <= MOST_FOR_CALLS);
        check.end("RoomTest");
    }

    /** Some 500 calls of each kind that throw nothing. */
    private static void calls(PacketGuard guard) {
        for (int i = 0; i < 30; i++) {
            guard.key(i % 16, i);
            guard.turn(0);
            guard.turn(1);
            guard.put(i, 4);
            guard.put(i, 3);
            guard.send(i);
            guard.forge(12, 4);
            guard.alter(guard.onTheWay() - 1, 256);
            guard.octet(0);
            guard.link(16);
            guard.take();
            guard.turn(1);
            guard.link(80);
            guard.take();
            guard.got(0);
            guard.take();
            guard.number(1);
            guard.begin();
        }
    }
}
