import com.sun.management.ThreadMXBean;
import java.lang.management.ManagementFactory;

/** Rule 12 of LANGUAGE.md: the room that a run of 512 calls takes, for each kind of call. */
public final class RoomTest {
    private static final Check check = new Check("RoomTest");
    /** With the tick before them, as many as an object is used for. */
    private static final int CALLS = 511;
    /** A hundredth of the room for one run: 73,000 fields and elements, of 8 bytes at the most. */
    private static final long MOST_BYTES = 73_000L * 8;
    private static final ThreadMXBean BEAN =
            (ThreadMXBean) ManagementFactory.getThreadMXBean();

    private interface Call {
        void make(LinkHost host, int i);
    }

    public static void main(String[] args) {
        check.under("what a run makes is counted");
        takesLittle("router", (host, i) -> host.router(1 + i % 254, 1 + i % 99, 1000, 8 + i % 33));
        takesLittle("prefix", (host, i) -> host.prefix(2 + i % 249, 3, 1000, 1000));
        takesLittle("asked", (host, i) -> host.asked(257 + i % 254, 263, 1 + i % 99));
        takesLittle("send", (host, i) -> host.send(257 + i % 254, 1 + i % 40));
        takesLittle("smaller", (host, i) -> host.smaller(257 + i % 254, 8 + i % 32));
        takesLittle("tick", (host, i) -> host.tick(100));
        takesLittle("header and come", (host, i) -> {
            if (i % 2 == 0) {
                host.header(5, i % 4);
            } else {
                host.come(257, 263);
            }
        });
        takesLittle("prefix and tick", (host, i) -> {
            if (i % 2 == 0) {
                host.prefix(2 + i % 249, 3, 1, 1);
            } else {
                host.tick(1);
            }
        });
        takesLittle("count", (host, i) -> host.count(i % 12));
        takesLittle("own", (host, i) -> host.own(0));
        takesLittle("neighbour", (host, i) -> host.neighbour(i));
        check.end();
    }

    private static void takesLittle(String what, Call call) {
        long taken = bytesOf(call);
        for (int again = 0; again < 3; again++) {
            // What the machine makes for itself the first time is none of the class's.
            taken = Math.min(taken, bytesOf(call));
        }
        check.holds(what + ": " + taken + " bytes are at most " + MOST_BYTES, taken <= MOST_BYTES);
    }

    private static long bytesOf(Call call) {
        long before = BEAN.getCurrentThreadAllocatedBytes();
        LinkHost host = Hosts.ready(7);
        for (int i = 0; i < CALLS; i++) {
            call.make(host, i);
        }
        return BEAN.getCurrentThreadAllocatedBytes() - before;
    }
}
