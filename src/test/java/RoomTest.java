import com.sun.management.ThreadMXBean;
import java.lang.management.ManagementFactory;

/**
 * A run has one room for all that it makes: 512 calls must stay far below 600,000 objects. So no call but
 * text() and written() may make any, and these two no more than a text of 70 signs needs.
 */
public final class RoomTest {
    private static final int CALLS = 512;
    private static final long A_TEXTS_BYTES = 2000;
    private static final ThreadMXBean MEASURE = (ThreadMXBean) ManagementFactory.getThreadMXBean();

    private interface Call {
        void go(Radixbench bench);
    }

    public static void main(String[] args) {
        // What the machine makes for itself at a first call is not the run's.
        bytes(bench -> bench.isSound());
        bytes(bench -> bench.digest());
        few("isSound", bench -> bench.isSound(), 0);
        few("digest", bench -> bench.digest(), 0);
        few("write", bench -> bench.write(3, 2, 2), 0);
        few("bits", bench -> bench.bits(3, 0, false), 0);
        few("read", bench -> bench.read(1, 36, 3), 0);
        few("same", bench -> bench.same(36, 3), 0);
        few("divide", bench -> bench.divide(3, 4, false), 0);
        few("text", bench -> bench.text(), A_TEXTS_BYTES);
        few("written", bench -> bench.written(3, 2, 2), A_TEXTS_BYTES);
        Due.end();
    }

    private static void few(String name, Call call, long bytesACall) {
        long bytes = bytes(call);
        boolean isFew = bytes <= CALLS * bytesACall + 100_000;
        Due.is(name + ", " + CALLS + " times, " + (isFew ? "few" : bytes) + " bytes", isFew, true);
    }

    private static long bytes(Call call) {
        long min = Long.MIN_VALUE;
        Radixbench bench = Bench.of(-1, min, min, min, -1, min, -1, -1);
        long before = MEASURE.getThreadAllocatedBytes(Thread.currentThread().getId());
        for (int often = 0; often < CALLS; often++) {
            call.go(bench);
        }
        return MEASURE.getThreadAllocatedBytes(Thread.currentThread().getId()) - before;
    }
}
