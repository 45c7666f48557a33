import com.sun.management.ThreadMXBean;
import java.lang.management.ManagementFactory;

/** A run of 512 calls, of the dearest kind, too, makes few objects. */
public final class RoomTest {
    private static final Check CHECK = new Check("RoomTest");
    private static final ThreadMXBean THREADS = (ThreadMXBean) ManagementFactory.getThreadMXBean();
    private static final long ENOUGH = 1000000;

    public static void main(String[] args) {
        bytes(-1);
        for (int call = -1; call < 12; call++) {
            long made = bytes(call);
            CHECK.same("512 of call " + call + " make " + made + " bytes", made < ENOUGH ? 1 : 0, 1);
        }
        CHECK.end();
    }

    private static long bytes(int call) {
        long id = Thread.currentThread().getId();
        LaidDownTheLane x = Lanes.of("g020;c0110;c1110;c0510;c0710;c0022;c0621;", "c0361;c0932;c0224;c0421;o00010;");
        x.row(0, Lanes.BYTES, 96);
        for (int i = 0; i < 96; i++) {
            x.put(0, i, "c0000;".charAt(i % 6));
        }
        x.row(1, Lanes.INTS, 100);
        x.row(2, Lanes.INTS, 1);
        x.keep(3, 1, 6, 5);
        long before = THREADS.getThreadAllocatedBytes(id);
        for (int k = 0; k < 512; k++) {
            ask(x, call);
        }
        return THREADS.getThreadAllocatedBytes(id) - before;
    }

    private static long ask(LaidDownTheLane x, int call) {
        switch (call) {
            case 0: return x.town(0);
            case 1: return x.row(7, Lanes.INTS, 100);
            case 2: return x.forLane();
            case 3: return x.thick(1) + x.winds(0);
            case 4: return x.anyWind(0) + x.unlike(0);
            case 5: return x.wedge() + x.sits() + x.order(255, 7);
            case 6: return x.days(20, 1, 1) + x.judge(1);
            case 7: return x.fell(2) + x.forged(2);
            case 8: return x.toss(3) + x.cost(3) + Lanes.element(x, 1, 5);
            case 9: return x.keep(5, 1, 2, 3) + x.lays(5, 3) + x.anew();
            case 10: return x.image() + x.restore();
            case 11: return x.canCut() + x.round() + x.moreOn() + x.sendOut() + x.safest();
            default: return x.falls();
        }
    }
}
