import java.lang.management.ManagementFactory;

/** The room of a run: no call makes objects, however dear it is, so 512 of them cost nothing. */
public final class RoomTest {
    private RoomTest() {
    }

    private static void dearest(PourElection x) {
        for (int teapot = 0; teapot < 8; teapot++) {
            x.smash(teapot, 20);
            x.heatFor(teapot, 60);
            x.cupsFor(teapot, 60);
            x.kindFor(teapot, 60);
            x.fits(0, teapot, 0);
            x.kinds(0, teapot);
            x.votes(teapot, 99999);
            x.odds(teapot, 0, 9, 1);
        }
        Check.feed(x, "ward 1 voters 2 taste 3;trial 1 2;ward 9");
        x.text();
        x.image();
        x.undo();
        x.elect(20);
    }

    public static void main(String[] args) {
        PourElection x = new PourElection();
        for (int i = 0; i < 8; i++) {
            x.teapot(i % 7, 90);
        }
        x.sheet(0, 8, 40);
        dearest(x);
        com.sun.management.ThreadMXBean threads = (com.sun.management.ThreadMXBean) ManagementFactory.getThreadMXBean();
        long thread = Thread.currentThread().getId();
        long before = threads.getThreadAllocatedBytes(thread);
        dearest(x);
        long made = threads.getThreadAllocatedBytes(thread) - before;
        Check.holds("calls make next to nothing: " + made + " bytes", made < 20000);
        Check.end("RoomTest");
    }
}
