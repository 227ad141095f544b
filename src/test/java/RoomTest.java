import java.lang.management.ManagementFactory;

/** Calls make next to nothing, so that a whole run stays far within the one room that it has. */
public final class RoomTest {
    private static final Due DUE = new Due();
    private static final com.sun.management.ThreadMXBean ROOM =
        (com.sun.management.ThreadMXBean) ManagementFactory.getThreadMXBean();

    public static void main(String[] args) {
        // The first round is for what the machine makes when a class is used for the first time.
        round();
        long made = made(RoomTest::round);
        DUE.due("bytes that an object and its 512 calls make: " + made, made > 40000 ? 1 : 0, 0);
        DUE.end("RoomTest");
    }

    private static long made(Runnable what) {
        long before = ROOM.getThreadAllocatedBytes(Thread.currentThread().getId());
        what.run();
        return ROOM.getThreadAllocatedBytes(Thread.currentThread().getId()) - before;
    }

    private static void round() {
        WhoSingsNext x = new WhoSingsNext();
        for (int i = 0; i < 8; i++) {
            x.come(20 + i, i);
        }
        for (int i = 0; i < 7; i++) {
            x.slip(i % 6, 31 + i, i);
        }
        for (int i = 0; i < 5; i++) {
            String text = "bears 20-sung;takes mood+sort;first waited-bar+" + i + ";";
            for (int k = 0; k < text.length(); k++) {
                x.feed(text.charAt(k));
            }
            x.text();
        }
        x.force(5);
        x.sheet(0, 2, 40);
        for (int i = 0; i < 40; i++) {
            x.set(5, 0, i);
            x.best(i & 1, 0);
            x.which(0);
            x.refuse(0);
            x.chance(i, 20, 0);
            x.image();
            x.back();
        }
    }
}
