import java.lang.management.ManagementFactory;

/** A run has one room for all that it makes: what an object takes, and that no call makes anything more. */
public final class RoomTests {
    private static final int MOST_BYTES_OF_AN_OBJECT = 16_000;
    private static final int[] ARGUMENTS = {Integer.MIN_VALUE, -1, 0, 1, 4, 5, 8, 20, 59, 60, 100, 110, Integer.MAX_VALUE};
    private static final com.sun.management.ThreadMXBean ROOM =
        (com.sun.management.ThreadMXBean) ManagementFactory.getThreadMXBean();

    private static long sum = 0;

    public static void main(String[] args) {
        new LastCallersWord();
        use(new LastCallersWord());
        long before = ROOM.getCurrentThreadAllocatedBytes();
        LastCallersWord x = new LastCallersWord();
        long made = ROOM.getCurrentThreadAllocatedBytes();
        use(x);
        long used = ROOM.getCurrentThreadAllocatedBytes();
        System.out.println("RoomTests: " + (made - before) + " bytes an object, " + (used - made) + " by all its calls (" + sum + ")");
        if (made - before > MOST_BYTES_OF_AN_OBJECT || used - made > 100) {
            System.exit(1);
        }
    }

    private static void use(LastCallersWord x) {
        for (int a : ARGUMENTS) {
            sum += x.write(a) + x.allIn(a) + x.called(a) + x.guess(a) + x.mean(a) + x.inTime(a) + x.count(a);
            sum += x.fault() + x.lay() + x.day() + x.shutOut() + x.keep();
            for (int b : ARGUMENTS) {
                sum += x.person(a, b) + x.likes(a, b) + x.door(a, b) + x.call(a, b) + x.tries(a, b);
                sum += x.knowsBy(a, b) + x.when(a, b) + x.lets(a, b) + x.friend(a, b);
                for (int c : ARGUMENTS) {
                    sum += x.alter(a, b, c) + x.keeps(a, b, c) + x.seen(a, b, c) + x.likely(a, b, c) + x.street(a, b, c);
                }
            }
            sum += x.undo() + x.forget() + x.back();
        }
        sum += x.wipe();
    }
}
