import java.lang.management.ManagementFactory;

/** One room holds all calls of a run: what 512 of the dearest calls take stays far below it. */
public final class RoomTest {
    private static final com.sun.management.ThreadMXBean THREADS =
            (com.sun.management.ThreadMXBean) ManagementFactory.getThreadMXBean();
    private static final Checks CHECKS = new Checks("RoomTest");

    public static void main(String[] args) {
        long start = taken();
        TownTwins warm = full();
        CHECKS.due("a full object answers", warm.count(3), 200);
        start = taken();
        TownTwins x = full();
        // some 60 KB: 7.3 million elements of 8 bytes would be 58 MB
        below("a full object with its rules", taken() - start, 200_000);
        start = taken();
        for (int i = 0; i < 512; i++) {
            ask(x, i);
        }
        below("512 rounds of the dearest questions", taken() - start, 200_000);
        CHECKS.end();
    }

    private static long taken() {
        return THREADS.getThreadAllocatedBytes(Thread.currentThread().getId());
    }

    private static void below(String what, long bytes, long most) {
        System.out.println("RoomTest: " + what + ": " + bytes + " bytes");
        CHECKS.due(what + " takes too much (" + bytes + " bytes)", bytes <= most, true);
    }

    private static TownTwins full() {
        TownTwins x = new TownTwins();
        for (int i = 0; i < 16; i++) {
            x.town(50 * i, 30, 10, 255);
        }
        for (int i = 0; i < 24; i++) {
            x.charter(i % 16, (i + 1) % 16, 0);
        }
        x.days(3000);
        for (int i = 0; i < 200; i++) {
            x.event(1, i % 24, 100, i & 1, 5, 3, 14 * i);
        }
        StringBuilder text = new StringBuilder("grant 1");
        while (text.length() < 398) {
            text.append("+1");
        }
        text.append(";");
        for (int i = 0; i < 8; i++) {
            CHECKS.due("rules", Checks.tell(x, text.toString()), 0);
        }
        for (int i = 0; i < 6; i++) {
            x.home(4, 255, true, 9);
            x.plan(i, 30, 4, 0x5003002001L);
        }
        for (int i = 0; i < 8; i++) {
            x.guest(255, 9, true);
        }
        for (int i = 0; i < 6; i++) {
            x.wish(i, 6, 0xba9876);
            x.wish(i + 6, 6, 0x012345);
        }
        return x;
    }

    private static void ask(TownTwins x, int i) {
        x.balance(i % 24, 0, 3599, 3000 - i % 2);
        x.told(i % 200, 2, 3000 - i % 2);
        x.about(i % 24, 2, 3599, 3000);
        x.lodge();
        x.calendar();
        x.pair(63, 63 << 6);
        x.stables(63, 63 << 6);
    }
}
