import com.sun.management.ThreadMXBean;
import java.lang.management.ManagementFactory;

/** The room that calls take: the dearest of them may make next to nothing, as all calls of a run live in one room. */
final class RoomTest {
    private static final Check CHECK = new Check("RoomTest");
    private static final ThreadMXBean THREADS = (ThreadMXBean) ManagementFactory.getThreadMXBean();

    public static void main(String[] args) {
        aNewObject();
        dearCalls();
        CHECK.close();
    }

    private static long taken() {
        return THREADS.getThreadAllocatedBytes(Thread.currentThread().getId());
    }

    private static void within(String what, long bytes, long most) {
        CHECK.is(what + " took " + bytes + " bytes, at most " + most, bytes <= most, true);
    }

    private static void aNewObject() {
        new HalfBridge();
        long before = taken();
        HalfBridge x = new HalfBridge();
        within("a new object", taken() - before, 24000);
        CHECK.is("it answers", x.count(0), 0);
    }

    private static HalfBridge told() {
        HalfBridge x = new HalfBridge();
        Told.river(x, "wide 40;eyes 0 9;eyes 1 9;step 2;flood 3 1");
        Told.rule(x, "turn other - line;rise tall - height;pull gap < 4");
        Told.rule(x, "turn other - line + last / 2;rise tall - height;pull yards > 9");
        return x;
    }

    private static void callAll(HalfBridge x) {
        for (int i = 0; i < 5; i++) {
            x.ahead(0, 1, 400, 0);
            x.zigzag(0, 1, 0);
            x.whatever(0, 1, 60, 0, 3, 9);
            x.straight(0, 0, 0);
            x.spite(0, 0, 8, 0);
            x.mend(0);
            x.erred(0, 1, 4, 9, 0);
            x.tried(0, 1, 20, 200, 50, 0);
            x.image(0);
            x.back(0);
        }
    }

    private static void dearCalls() {
        // What the machine itself takes at first is no call's.
        callAll(told());
        HalfBridge x = told();
        long before = taken();
        callAll(x);
        within("fifty dear calls", taken() - before, 30000);
        before = taken();
        callAll(x);
        within("fifty more", taken() - before, 1000);
        Told.tape(x, "turn other - line if gap > 1 and not [ yards = 1 ]");
        before = taken();
        x.rule();
        within("a rule", taken() - before, 1000);
        Told.tape(x, "wide 40;eyes 0 9;flood 3 1");
        before = taken();
        x.river();
        within("a river", taken() - before, 1000);
    }
}
