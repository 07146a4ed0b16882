import java.lang.management.ManagementFactory;

/**
 * The room that a run of 512 calls takes: what is asked makes next to nothing anew. The dearest calls are firm
 * (ten people) and treaty (what was read).
 */
public final class RoomTest {
    private static final int CALLS = 512;
    private static final long MOST_BYTES = 1_000_000;

    private static int wrong = 0;

    public static void main(String[] args) {
        for (int way = 0; way < 8; way++) {
            run(way);
        }
        for (int way = 0; way < 8; way++) {
            long before = allocated();
            run(way);
            long taken = allocated() - before;
            if (taken > MOST_BYTES) {
                wrong++;
                System.out.println("way " + way + " takes " + taken + " bytes");
            }
        }
        System.out.println("RoomTest: " + wrong + " wrong");
        if (wrong != 0) {
            System.exit(1);
        }
    }

    private static long allocated() {
        return ((com.sun.management.ThreadMXBean) ManagementFactory.getThreadMXBean())
            .getThreadAllocatedBytes(Thread.currentThread().getId());
    }

    private static void run(int way) {
        SaltPeace x = new SaltPeace();
        for (int p = 0; p < 6; p++) {
            x.person(p + 1, p, p);
        }
        x.image();
        for (int call = 0; call < CALLS; call++) {
            one(x, way, call);
        }
    }

    private static void one(SaltPeace x, int way, int call) {
        switch (way) {
            case 0: x.firm(call % 6, 0); break;
            case 1: x.fill(60, 0); break;
            case 2: x.treaty(); break;
            case 3: x.undo(); x.person(6, 1, 1); x.image(); break;
            case 4: x.forgive(); x.roofs(); x.move(1); break;
            case 5: x.odds(99, 0); x.who(); x.where(2); break;
            case 6:
                x.undo();
                x.feed('r'); x.feed('a'); x.feed('i'); x.feed('n'); x.feed(' '); x.feed('1');
                x.treaty();
                break;
            default: x.act(3, 2, call); x.held(1); x.worst(1, 0); x.watch(3, 0); break;
        }
    }
}
