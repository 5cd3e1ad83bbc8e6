import java.lang.management.ManagementFactory;

/** What an object's 512 calls make stays small: all calls of one run live in one room. */
final class RoomTest {
    /** A hundredth of the room's 7.3 million elements, at 4 bytes each. */
    private static final long MOST_BYTES = 73_000 * 4;
    private static final int CALLS = 512;

    private RoomTest() {
    }

    private static long allocated() {
        return ((com.sun.management.ThreadMXBean) ManagementFactory.getThreadMXBean())
            .getThreadAllocatedBytes(Thread.currentThread().getId());
    }

    public static void main(String[] args) {
        everyCallOfEveryField(100);
        long before = allocated();
        everyCallOfEveryField(CALLS);
        long listings = allocated() - before;
        before = allocated();
        everyMapCall(CALLS);
        long maps = allocated() - before;
        System.out.println("bytes: fields and listings " + listings + ", map calls " + maps);
        Due.isTrue("fields and listings", listings < MOST_BYTES);
        Due.isTrue("map calls", maps < MOST_BYTES / 10);
        Due.end();
    }

    private static void everyCallOfEveryField(int calls) {
        ShuffleMaps m = new ShuffleMaps();
        for (int i = 0; i < calls; i += 2) {
            m.field(Model.SIZES[i / 2 % Model.SIZES.length]);
            m.many(1 + i / 20 % 5);
        }
    }

    private static void everyMapCall(int calls) {
        ShuffleMaps m = new ShuffleMaps();
        m.field(16);
        // The field is a call, too.
        for (int i = 0; i + 16 < calls; i += 16) {
            m.make(0, 2, 3, 7, i % 16, 5);
            m.taste(2, 7, 1, 2, 3, 4);
            m.chain(1, 0, 2);
            m.change(0, 3, 5);
            m.degree(0);
            m.fails(0);
            m.turn(2);
            m.order(2);
            m.image(0);
            m.spread(0);
            m.planar(0);
            m.linear(0);
            m.like(0, 1);
            m.least(0);
            m.pick(3, 3, 0);
            m.count(2);
        }
    }
}
