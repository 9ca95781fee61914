import java.lang.management.ManagementFactory;

/** All calls of a run share one room: an object and its 512 dearest calls must stay small. */
public final class RoomTest {
    // The room has 7.3 million elements; ten such objects may stand in it, at eight bytes an element.
    private static final long MOST_BYTES = 5_800_000;
    private static final long MOST_BYTES_NEW = 40_000;
    private static final String TEXT = "row r has 6 from -999 to 999;row q has 6 from -9 to 9;sum a of r;most b of r;"
            + "sum c of q;most d of q;sum e of r;most f of r;sum g of q;most h of q;add i a b;add j c d;less k i j;"
            + "pick l i k if a under b;end l off 9 mean;end k off 9 one;end i off 9999 mean;end j off 99 one;";

    private RoomTest() {
    }

    private static long allocated() {
        com.sun.management.ThreadMXBean threads =
                (com.sun.management.ThreadMXBean) ManagementFactory.getThreadMXBean();
        return threads.getThreadAllocatedBytes(Thread.currentThread().getId());
    }

    private static void atMost(String what, long bytes, long most) {
        System.out.println(what + ": " + bytes + " bytes");
        Check.due(what + " takes " + bytes + " bytes, at most " + most, bytes <= most, true);
    }

    public static void main(String[] args) {
        allocated();
        new NearEnough();
        long before = allocated();
        NearEnough one = new NearEnough();
        atMost("a new object", allocated() - before, MOST_BYTES_NEW);
        Check.due("it stands", one.about(0), 0);
        before = allocated();
        readOften();
        atMost("an object that reads often", allocated() - before, MOST_BYTES);
        before = allocated();
        askOften();
        atMost("an object that is asked often", allocated() - before, MOST_BYTES);
        Check.finish();
    }

    private static void readOften() {
        NearEnough x = new NearEnough();
        for (int turn = 0; turn < 22; turn++) {
            Check.tape(x, Check.bytes(TEXT));
            for (int i = 0; i < 3; i++) {
                x.program();
                x.sheet(true);
                x.plan(0, 400);
                x.front(0);
            }
        }
    }

    private static void askOften() {
        NearEnough x = Check.told(TEXT);
        for (int step = 0; step < 12; step++) {
            x.change(step, 1, 1 + step % 10, step * 37 % 100);
        }
        for (int sheet = 0; sheet < 40; sheet++) {
            x.sheet(sheet % 2 == 0);
            x.put(sheet, 0, sheet % 6, sheet * 49 - 999);
            x.put(sheet, 1, sheet % 6, sheet % 19 - 9);
        }
        for (int turn = 0; turn < 40; turn++) {
            x.put(turn, 0, 1, turn);
            x.best();
            x.front(turn % 4);
            x.plan(turn % 4, 10 * turn);
            x.planned(turn % 4, 10 * turn, 39);
            x.worst(turn % 4, turn, 0);
            x.measured(turn % 4, 4095);
            x.let(4095 - turn);
        }
    }
}
