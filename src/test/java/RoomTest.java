import java.lang.management.ManagementFactory;

/** All calls of a run live in one room: a new object takes little of it, and a call takes nothing, up to the 512th. */
public final class RoomTest {
    private static final long MOST_BYTES_OF_AN_OBJECT = 24_000;
    private static final long MOST_BYTES_OF_ALL_CALLS = 64_000;
    private static final int OBJECTS = 300;
    private static final int ROUNDS = 7;

    private static final com.sun.management.ThreadMXBean THREADS = (com.sun.management.ThreadMXBean) ManagementFactory.getThreadMXBean();

    public static void main(String[] args) {
        Due due = new Due();
        // What the machine itself makes at the first calls does not count.
        allCalls(new LimbKernel(11, 12, 24, 2000));
        long begin = bytes();
        LimbKernel[] kernels = new LimbKernel[OBJECTS];
        for (int i = 0; i < OBJECTS; i++) {
            kernels[i] = new LimbKernel(11, 12, 24, 2000);
        }
        long made = (bytes() - begin) / OBJECTS;
        begin = bytes();
        for (LimbKernel kernel : kernels) {
            for (int round = 0; round < ROUNDS; round++) {
                allCalls(kernel);
            }
        }
        long called = bytes() - begin;
        due.is("the greatest object takes " + made + " bytes: too many", made > MOST_BYTES_OF_AN_OBJECT, false);
        due.is("the calls took " + called + " bytes: too many", called > MOST_BYTES_OF_ALL_CALLS, false);
        due.end();
    }

    private static long bytes() {
        return THREADS.getThreadAllocatedBytes(Thread.currentThread().getId());
    }

    private static void allCalls(LimbKernel kernel) {
        for (int h = 0; h < 3; h++) {
            kernel.newNumber(3 + h);
            kernel.setLimb(h, 2, 7 + h);
        }
        for (int op = 0; op < 5; op++) {
            kernel.submit(op, 0, 1, 2);
        }
        kernel.tick();
        kernel.run(5000);
        for (int j = 0; j < 5; j++) {
            kernel.jobState(j);
            kernel.workLeft(j);
            kernel.getLimb(kernel.jobResult(j), 0);
            kernel.cancel(j);
            kernel.forget(j);
            kernel.number(j, 0);
            kernel.sizeOf(j);
            kernel.release(j);
            kernel.count(j, 0);
            kernel.freeBlock(j, 0);
        }
        kernel.freeCells();
        kernel.init();
    }
}
