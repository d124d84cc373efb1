import java.lang.management.ManagementFactory;

/** Calls make nothing: all rows are made with the object, so that many calls fit into one room. */
public final class RoomTest {
    private static final Check CHECK = new Check();

    public static void main(String[] args) {
        TripRounds x = fullTown();
        long before = madeBytes();
        for (int i = 0; i < 100; i++) {
            x.rounds(50, 0);
            x.assign(8);
            x.fit(20);
            x.gap();
            x.way(0, 11, 3);
            x.chosen(1, 0, 5);
        }
        long made = madeBytes() - before;
        // Some slack for what the machine itself makes on this thread.
        CHECK.same("600 calls make less than 64 KiB", 1, made < 65536 ? 1 : 0);
        before = madeBytes();
        TripRounds[] many = new TripRounds[100];
        for (int i = 0; i < many.length; i++) {
            many[i] = new TripRounds();
        }
        CHECK.same("an object takes less than 16 KiB", 1, (madeBytes() - before) / many.length < 16384 ? 1 : 0);
        CHECK.end();
    }

    private static TripRounds fullTown() {
        TripRounds x = new TripRounds();
        for (int i = 0; i < 12; i++) {
            x.node();
        }
        for (int i = 0; i < 6; i++) {
            x.zone(2 * i, 1000 * i, 1000 * (5 - i));
        }
        for (int i = 0; i < 40; i++) {
            x.street(i % 12, (i % 12 + 1 + i / 12 * 2) % 12, 1 + i, i, 100);
            x.count(i, 77 * i);
        }
        return x;
    }

    private static long madeBytes() {
        return ((com.sun.management.ThreadMXBean) ManagementFactory.getThreadMXBean())
                .getCurrentThreadAllocatedBytes();
    }
}
