import java.lang.management.ManagementFactory;

/** All 512 calls of an object live in one room: what the dearest ones make is measured and stays far below it. */
public final class RoomTests {
    /** With the calls that fill the object they are 512. */
    private static final int CALLS = 504;
    /** A fourth of some 7.3 million elements of four bytes. */
    private static final long MOST_BYTES = 7_300_000L;
    private static final com.sun.management.ThreadMXBean THREADS =
            (com.sun.management.ThreadMXBean) ManagementFactory.getThreadMXBean();
    private static int wrong = 0;

    private interface Call {
        void make(Bookgrafter x);
    }

    private static void room(String what, Call call) {
        Bookgrafter x = new Bookgrafter();
        for (int place = 0; place < 4; place++) {
            x.fill(place, 0, 1, 100, 10);
        }
        for (int shelf = 0; shelf < 3; shelf++) {
            x.lay(shelf, 0, 1, 100, true);
        }
        call.make(x);
        long before = THREADS.getCurrentThreadAllocatedBytes();
        for (int j = 0; j < CALLS; j++) {
            call.make(x);
        }
        long made = THREADS.getCurrentThreadAllocatedBytes() - before;
        if (made > MOST_BYTES) {
            wrong++;
            System.out.println(CALLS + " calls of " + what + " made " + made + " bytes, most is " + MOST_BYTES);
        }
    }

    public static void main(String[] args) {
        room("digest", x -> x.digest());
        room("isSound", x -> x.isSound());
        room("bookText", x -> x.bookText(0));
        room("buildBook", x -> x.buildBook(0, 1, 5));
        room("splitBook", x -> x.splitBook(0, 50, 1));
        room("buildFromView", x -> x.buildFromView(0, 0, 0));
        room("keysOf", x -> x.keysOf(0, 1));
        room("fill", x -> x.fill(0, 0, 1, 100, 5));
        room("shelfCut", x -> x.shelfCut(0, 0, 99, 4, 1));
        System.out.println(wrong == 0 ? "the room holds all calls" : wrong + " calls are too dear");
        if (wrong != 0) {
            System.exit(1);
        }
    }
}
