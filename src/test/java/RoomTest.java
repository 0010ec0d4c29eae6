import java.lang.management.ManagementFactory;
import java.util.function.ToLongFunction;

/** All calls of one run live in one room: 512 calls of the dearest kind make next to nothing beside the object. */
public final class RoomTest {
    private static final Check check = new Check("RoomTest");
    private static final com.sun.management.ThreadMXBean ROOM =
        (com.sun.management.ThreadMXBean) ManagementFactory.getThreadMXBean();
    private static final int CALLS = 512;
    // the room's 600,000 objects are some ten million bytes at least; a run stays far below
    private static final long MOST_BYTES = 400_000;

    public static void main(String[] args) {
        BeardsAreBonds x = Worlds.make(Worlds.FULL);
        Check.sheet(x, 0, 2, 9, 3, 8, 9, 20, 20, 30, 40, 7, 50, 6, 59);
        stays("take", x, y -> y.take(0, 3, 0));
        stays("kinds", x, y -> y.kinds(1, 3, 1));
        stays("since", x, y -> y.since(1, 3));
        stays("laws", x, y -> y.laws(1, 3));
        stays("whose", x, y -> y.whose(1));
        stays("odds", x, y -> y.odds(7, 20, 60, 0));
        stays("drawn", x, y -> y.drawn(7, 60, 2));
        stays("run", x, y -> y.run(60, 3));
        stays("ripe", x, y -> y.ripe(3, 1998));
        stays("day", x, y -> y.day(1, 1));
        stays("ring", x, y -> y.ring(0));
        stays("pillar", x, y -> y.pillar(1));
        stays("film", x, y -> y.film(2, 3, 40));
        stays("menBy", x, y -> y.menBy(0, 2, 0, 4));
        stays("image, back", x, y -> y.image() + y.back());
        stays("sheet, copy", x, y -> y.sheet(3, 2, 40) + y.copy(0, 0, 3, 5, 9));
        stays("text, FULL", x, y -> y.text());
        stays("a fault", new BeardsAreBonds(), y -> y.feed(5, '(', '(', '1', '+', ';') + y.text());
        stays("new texts", new BeardsAreBonds(), RoomTest::feedAndRead);
        check.end();
    }

    private static void stays(String call, BeardsAreBonds x, ToLongFunction<BeardsAreBonds> asked) {
        asked.applyAsLong(x);
        long self = Thread.currentThread().getId();
        long before = ROOM.getThreadAllocatedBytes(self);
        long sum = 0;
        for (int i = 0; i < CALLS; i++) {
            sum += asked.applyAsLong(x);
        }
        long made = ROOM.getThreadAllocatedBytes(self) - before;
        check.due(call + " made " + made + " bytes (answers " + sum + ")", made <= MOST_BYTES ? 1 : 0, 1);
    }

    /** The longest text of numbers alone: a whole tape. */
    private static long feedAndRead(BeardsAreBonds x) {
        if (x.count(5) == 0) {
            StringBuilder text = new StringBuilder("grows 1");
            while (text.length() < 140) {
                text.append("+1");
            }
            Check.feedAll(x, text.append(";trims 1;shames 1;").toString());
        }
        return x.text();
    }
}
