/** Each promise of the document by itself: ordinary inputs, the edges that it names, and wrong inputs. */
public final class PromisesTest {
    private static final int NONE = -1, BAD_SIZE = -2, NO_HANDLE = -3, NO_ROOM = -4, BAD_OP = -5, BAD_HANDLE = -6, DIV_ZERO = -7, NO_JOB = -8;
    private static final int MUL = 0, DIVQ = 1, GCD = 2, POWMOD = 3;
    private static final int WAITING = 0, RUNNING = 1, DONE = 2, CANCELLED = 3;
    private static final int LEAST = Integer.MIN_VALUE, GREATEST = Integer.MAX_VALUE;
    private static final int[] NO_SUCH = {-1, -2, 24, 25, 99, LEAST, GREATEST};

    private static final Due DUE = new Due();

    public static void main(String[] args) {
        aNewObject();
        init();
        newNumber();
        blocksAreHalvedAndJoined();
        handlesEnd();
        setLimb();
        getLimb();
        sizeOf();
        release();
        submitRefuses();
        submitPinsAndPlans();
        needsAtTheirEdges();
        tickStarts();
        tickWaitsForRoom();
        tickHalvesForBoth();
        tickTakesTurns();
        tickEnds();
        run();
        jobState();
        jobResult();
        workLeft();
        cancel();
        forget();
        freeCells();
        freeBlock();
        number();
        count();
        DUE.end();
    }

    /** A kernel with numbers 0, 1, .. of one limb each. */
    private static LimbKernel with(int poolLog, int jobs, int handles, int quantum, int... values) {
        LimbKernel x = new LimbKernel(poolLog, jobs, handles, quantum);
        for (int value : values) {
            x.setLimb(x.newNumber(1), 0, value);
        }
        return x;
    }

    private static int handlesOf(LimbKernel x) {
        int most = 0;
        while (most < 100 && x.newNumber(1) >= 0) {
            most++;
        }
        return most;
    }

    private static int jobsOf(LimbKernel x) {
        int h = x.newNumber(1);
        int most = 0;
        while (most < 100 && x.submit(MUL, h, h, 0) >= 0) {
            most++;
        }
        return most;
    }

    private static long quantumOf(LimbKernel x) {
        int h = x.newNumber(9);
        int j = x.submit(GCD, h, h, 0);
        x.run(2);
        return 31 * 18 * 18 - x.workLeft(j);
    }

    private static void aNewObject() {
        int[][] pools = {{LEAST, 8}, {-5, 8}, {2, 8}, {3, 8}, {4, 16}, {10, 1024}, {11, 2048}, {12, 2048}, {GREATEST, 2048}};
        for (int[] pool : pools) {
            DUE.is("1: the pool of " + pool[0], new LimbKernel(pool[0], 1, 1, 1).freeCells(), pool[1]);
        }
        int[][] jobs = {{LEAST, 1}, {0, 1}, {1, 1}, {2, 2}, {11, 11}, {12, 12}, {13, 12}, {GREATEST, 12}};
        for (int[] most : jobs) {
            DUE.is("1: jobs of " + most[0], jobsOf(new LimbKernel(11, most[0], 24, 1)), most[1]);
        }
        int[][] handles = {{LEAST, 1}, {0, 1}, {1, 1}, {2, 2}, {23, 23}, {24, 24}, {25, 24}, {GREATEST, 24}};
        for (int[] most : handles) {
            DUE.is("1: handles of " + most[0], handlesOf(new LimbKernel(11, 1, most[0], 1)), most[1]);
        }
        int[][] quanta = {{LEAST, 1}, {0, 1}, {1, 1}, {2, 2}, {1999, 1999}, {2000, 2000}, {2001, 2000}, {GREATEST, 2000}};
        for (int[] quantum : quanta) {
            DUE.is("1: quantum of " + quantum[0], quantumOf(new LimbKernel(11, 1, 4, quantum[0])), quantum[1]);
        }
        LimbKernel x = new LimbKernel(5, 2, 2, 2);
        for (int what = 0; what < 4; what++) {
            DUE.is("1: a new object's count of " + what, x.count(what, 0), 0);
        }
        DUE.is("1: the free block", x.freeBlock(5, 0), 0);
        DUE.is("1: the first handle", x.newNumber(32), 0);
    }

    private static void init() {
        LimbKernel x = with(8, 4, 8, 50, 7, 5);
        DUE.is("2: init", x.init(), 2);
        DUE.is("2: init again", x.init(), 0);
        x.setLimb(x.newNumber(1), 0, 7);
        x.submit(MUL, 0, 0, 0);
        x.submit(GCD, 0, 0, 0);
        x.submit(GCD, 0, 0, 0);
        x.run(4);
        x.cancel(1);
        DUE.is("2: init with a job done, one called off, one in the queue", x.init(), 3 + 3);
        for (int what = 0; what < 4; what++) {
            DUE.is("2: count of " + what, x.count(what, 0), 0);
        }
        DUE.is("2: the queue", x.count(4, 0), NONE);
        DUE.is("2: freeCells", x.freeCells(), 256);
        DUE.is("2: the free block", x.freeBlock(8, 0), 0);
        for (int j = 0; j < 3; j++) {
            DUE.is("2: jobState", x.jobState(j), NONE);
            DUE.is("2: jobResult", x.jobResult(j), NONE);
            DUE.is("2: workLeft", x.workLeft(j), NONE);
        }
        DUE.is("2: sizeOf", x.sizeOf(0), NONE);
        DUE.is("2: newNumber", x.newNumber(2), 0);
        DUE.is("2: its limb is 0", x.getLimb(0, 0), 0);
        DUE.is("2: its pins", x.number(0, 2), 0);
        DUE.is("2: submit", x.submit(MUL, 0, 0, 0), 0);
        DUE.is("2: the most jobs are as told", jobsOf(x), 3);
        x.init();
        x.setLimb(x.newNumber(1), 0, 7);
        x.submit(DIVQ, 0, 0, 0);
        x.tick();
        x.init();
        x.newNumber(1);
        x.submit(MUL, 0, 0, 0);
        x.tick();
        x.cancel(0);
        DUE.is("2: the ROOM of an earlier job is not given back", x.freeCells(), 255);
        x.init();
        DUE.is("2: the most handles are as told", handlesOf(x), 8);
        x.init();
        DUE.is("2: the quantum is as told", quantumOf(x), 50);
    }

    private static void newNumber() {
        LimbKernel x = new LimbKernel(4, 1, 3, 1);
        for (int limbs : new int[] {0, -1, 17, 18, LEAST, GREATEST}) {
            DUE.is("3: newNumber(" + limbs + ")", x.newNumber(limbs), BAD_SIZE);
        }
        DUE.is("3: all of the pool", x.newNumber(16), 0);
        DUE.is("3: no room", x.newNumber(1), NO_ROOM);
        DUE.is("3: bad size before no room", x.newNumber(17), BAD_SIZE);
        x.release(0);
        for (int h = 0; h < 3; h++) {
            DUE.is("3: handle", x.newNumber(1), h);
        }
        DUE.is("3: no handle", x.newNumber(1), NO_HANDLE);
        DUE.is("3: no handle before no room", x.newNumber(16), NO_HANDLE);
        DUE.is("3: bad size before no handle", x.newNumber(0), BAD_SIZE);
        DUE.is("3: nothing was given", x.freeCells(), 13);
        x.setLimb(1, 0, 9);
        x.release(1);
        DUE.is("3: no room for 9", x.newNumber(9), NO_ROOM);
        DUE.is("3: the least free handle", x.newNumber(5), 1);
        x.release(0);
        x.release(2);
        DUE.is("3: the least of two", x.newNumber(1), 0);
        x.setLimb(0, 0, GREATEST);
        x.release(0);
        x.newNumber(1);
        DUE.is("3: a new number is 0", x.getLimb(0, 0), 0);
    }

    private static void blocksAreHalvedAndJoined() {
        int[][] orders = {{1, 0}, {2, 1}, {3, 2}, {4, 2}, {5, 3}, {8, 3}, {9, 4}, {16, 4}, {17, 5}, {32, 5}};
        for (int[] order : orders) {
            LimbKernel x = new LimbKernel(6, 1, 1, 1);
            x.newNumber(order[0]);
            DUE.is("Terms: order for " + order[0], x.number(0, 1), order[1]);
            DUE.is("Terms: free beside " + order[0], x.freeCells(), 64 - (1 << order[1]));
            for (int half = order[1]; half < 6; half++) {
                DUE.is("Terms: the upper half of order " + half, x.freeBlock(half, 0), 1 << half);
            }
        }
        LimbKernel x = new LimbKernel(4, 1, 16, 1);
        for (int h = 0; h < 16; h++) {
            x.newNumber(1);
            DUE.is("Terms: address", x.number(h, 0), h);
        }
        x.release(5);
        x.release(6);
        DUE.is("Terms: neighbours that are no buddies stay two", x.freeBlock(0, NONE), 2);
        x.release(4);
        DUE.is("Terms: buddies are one", x.freeBlock(1, 0), 4);
        DUE.is("Terms: the other is left", x.freeBlock(0, 0), 6);
        x.release(7);
        DUE.is("Terms: joined twice", x.freeBlock(2, 0), 4);
        x.release(9);
        x.release(2);
        DUE.is("Terms: least address of the least order", x.number(x.newNumber(1), 0), 2);
        DUE.is("Terms: a smaller one before a lower one", x.number(x.newNumber(1), 0), 9);
        DUE.is("Terms: then the greater one is halved", x.number(x.newNumber(1), 0), 4);
        DUE.is("Terms: its upper half", x.freeBlock(1, 0), 6);
        DUE.is("Terms: its lower half's upper half", x.freeBlock(0, 0), 5);
        LimbKernel y = new LimbKernel(4, 1, 16, 1);
        y.newNumber(2);
        y.newNumber(2);
        y.release(1);
        y.release(0);
        y.newNumber(8);
        y.newNumber(2);
        DUE.is("Terms: the halves of a joined block are no blocks", y.freeBlock(1, 0), 10);
        DUE.is("Terms: nor are greater ones", y.freeBlock(2, 0), 12);
    }

    /** A handle that is one above the greatest that may be. */
    private static void handlesEnd() {
        for (int handles : new int[] {1, 2, 23, 24}) {
            LimbKernel x = new LimbKernel(8, 2, handles, 10);
            handlesOf(x);
            x.setLimb(0, 0, 1);
            DUE.is("4: beyond the handles", x.setLimb(handles, 0, 1), false);
            DUE.is("5: beyond the handles", x.getLimb(handles, 0), NONE);
            DUE.is("6: beyond the handles", x.sizeOf(handles), NONE);
            DUE.is("7: beyond the handles", x.release(handles), false);
            DUE.is("8: beyond the handles", x.submit(POWMOD, 0, 0, handles), BAD_HANDLE);
            DUE.is("18: beyond the handles", x.number(handles, 0), NONE);
            DUE.is("6: the last of the handles", x.sizeOf(handles - 1), 1);
        }
    }

    private static void setLimb() {
        LimbKernel x = new LimbKernel(5, 2, 6, 1000);
        x.newNumber(3);
        x.newNumber(1);
        DUE.is("4: setLimb", x.setLimb(0, 0, 11), true);
        DUE.is("4: the last limb", x.setLimb(0, 2, GREATEST), true);
        DUE.is("4: to 0", x.setLimb(0, 0, 0), true);
        DUE.is("4: limb 0", x.getLimb(0, 0), 0);
        DUE.is("4: limb 1 as it was", x.getLimb(0, 1), 0);
        DUE.is("4: limb 2", x.getLimb(0, 2), GREATEST);
        for (int h : NO_SUCH) {
            DUE.is("4: no number", x.setLimb(h, 0, 1), false);
        }
        for (int i : new int[] {3, 4, -1, LEAST, GREATEST}) {
            DUE.is("4: no limb", x.setLimb(0, i, 1), false);
        }
        for (int w : new int[] {-1, LEAST}) {
            DUE.is("4: below 0", x.setLimb(0, 0, w), false);
        }
        DUE.is("4: the next number is as it was", x.getLimb(1, 0), 0);
        x.setLimb(1, 0, 3);
        x.submit(MUL, 1, 1, 0);
        DUE.is("4: pinned", x.setLimb(1, 0, 4), false);
        x.tick();
        DUE.is("4: a result that is not done", x.setLimb(2, 0, 4), false);
        x.tick();
        DUE.is("4: pinned no more", x.setLimb(1, 0, 4), true);
        DUE.is("4: a result that is done", x.setLimb(2, 0, 5), true);
        DUE.is("4: it is so", x.getLimb(2, 0), 5);
    }

    private static void getLimb() {
        LimbKernel x = with(5, 2, 6, 1000, 3, GREATEST);
        DUE.is("5: getLimb", x.getLimb(0, 0), 3);
        DUE.is("5: the greatest", x.getLimb(1, 0), GREATEST);
        for (int h : NO_SUCH) {
            DUE.is("5: no number", x.getLimb(h, 0), NONE);
        }
        for (int i : new int[] {1, 2, -1, LEAST, GREATEST}) {
            DUE.is("5: no limb", x.getLimb(0, i), NONE);
        }
        x.submit(MUL, 1, 1, 0);
        DUE.is("5: of an operand", x.getLimb(1, 0), GREATEST);
        x.tick();
        DUE.is("5: not done", x.getLimb(2, 0), NONE);
        x.tick();
        DUE.is("5: done, limb 0", x.getLimb(2, 0), 1);
        DUE.is("5: done, limb 1", x.getLimb(2, 1), GREATEST - 1);
        DUE.is("5: done, no limb 2", x.getLimb(2, 2), NONE);
        x.release(2);
        DUE.is("5: released", x.getLimb(2, 0), NONE);
    }

    private static void sizeOf() {
        LimbKernel x = new LimbKernel(5, 2, 6, 1000);
        x.newNumber(3);
        x.newNumber(5);
        DUE.is("6: sizeOf", x.sizeOf(0), 3);
        DUE.is("6: sizeOf", x.sizeOf(1), 5);
        for (int h : NO_SUCH) {
            DUE.is("6: no number", x.sizeOf(h), NONE);
        }
        DUE.is("6: a handle that is free", x.sizeOf(2), NONE);
        x.submit(MUL, 0, 1, 0);
        x.tick();
        DUE.is("6: a result that is not done", x.sizeOf(2), 8);
        x.cancel(0);
        DUE.is("6: it went", x.sizeOf(2), NONE);
        x.release(0);
        DUE.is("6: released", x.sizeOf(0), NONE);
    }

    private static void release() {
        LimbKernel x = with(4, 2, 4, 1000, 1, 2);
        for (int h : NO_SUCH) {
            DUE.is("7: no number", x.release(h), false);
        }
        DUE.is("7: a handle that is free", x.release(2), false);
        DUE.is("7: release", x.release(0), true);
        DUE.is("7: once only", x.release(0), false);
        DUE.is("7: its block is free", x.freeCells(), 15);
        DUE.is("7: one handle less", x.count(0, 0), 1);
        x.submit(MUL, 1, 1, 0);
        DUE.is("7: pinned", x.release(1), false);
        x.tick();
        DUE.is("7: a result that is not done", x.release(0), false);
        DUE.is("7: nothing went", x.freeCells(), 13);
        x.tick();
        DUE.is("7: a result that is done", x.release(0), true);
        DUE.is("7: an operand no more", x.release(1), true);
        DUE.is("7: the pool is one again", x.freeBlock(4, 0), 0);
    }

    private static void submitRefuses() {
        LimbKernel x = with(6, 2, 8, 10, 7, 0);
        for (int op : new int[] {-1, 4, 5, LEAST, GREATEST}) {
            DUE.is("8: bad op", x.submit(op, 0, 0, 0), BAD_OP);
            DUE.is("8: bad op before bad handle", x.submit(op, 9, 9, 9), BAD_OP);
        }
        for (int h : NO_SUCH) {
            for (int op = MUL; op <= POWMOD; op++) {
                DUE.is("8: bad a", x.submit(op, h, 0, 0), BAD_HANDLE);
                DUE.is("8: bad b", x.submit(op, 0, h, 0), BAD_HANDLE);
            }
            DUE.is("8: bad m", x.submit(POWMOD, 0, 0, h), BAD_HANDLE);
            DUE.is("8: bad handle before divided by 0", x.submit(DIVQ, h, 1, 0), BAD_HANDLE);
            DUE.is("8: bad handle before modulo 0", x.submit(POWMOD, 0, h, 1), BAD_HANDLE);
        }
        DUE.is("8: divided by 0", x.submit(DIVQ, 0, 1, 0), DIV_ZERO);
        DUE.is("8: modulo 0", x.submit(POWMOD, 0, 0, 1), DIV_ZERO);
        DUE.is("8: no job was made", x.count(1, 0), 0);
        DUE.is("8: no pin was made", x.number(0, 2) + x.number(1, 2), 0);
        for (int m : NO_SUCH) {
            x.init();
            x.newNumber(1);
            DUE.is("8: m does not matter", x.submit(MUL, 0, 0, m), 0);
            DUE.is("8: nor for GCD of 0", x.submit(GCD, 0, 0, m), 1);
            DUE.is("8: no job before it all", x.submit(MUL, 0, 0, 0), NO_JOB);
            DUE.is("8: divided by 0 before no job", x.submit(DIVQ, 0, 0, 0), DIV_ZERO);
            DUE.is("8: bad handle before no job", x.submit(MUL, 0, 3, 0), BAD_HANDLE);
            DUE.is("8: bad op before no job", x.submit(4, 0, 0, 0), BAD_OP);
        }
        x.run(1);
        DUE.is("8: the result of a job that is not done as a", x.submit(MUL, 1, 0, 0), BAD_HANDLE);
        DUE.is("8: as b", x.submit(MUL, 0, 1, 0), BAD_HANDLE);
        DUE.is("8: as m", x.submit(POWMOD, 0, 0, 1), BAD_HANDLE);
        x.run(2);
        DUE.is("8: a job that is done holds its number still", x.submit(MUL, 1, 1, 0), NO_JOB);
        x.forget(0);
        DUE.is("8: the result of a job that is done", x.submit(MUL, 1, 1, 0), 0);
        LimbKernel y = new LimbKernel(6, 2, 8, 10);
        y.newNumber(2);
        y.setLimb(0, 1, 1);
        DUE.is("8: a number whose limb 0 alone is 0 divides", y.submit(DIVQ, 0, 0, 0), 0);
    }

    private static void submitPinsAndPlans() {
        LimbKernel x = new LimbKernel(8, 12, 8, 10);
        int a = x.newNumber(3);
        int b = x.newNumber(5);
        int m = x.newNumber(2);
        x.setLimb(b, 4, 1);
        x.setLimb(m, 0, 1);
        long[] works = {3 * 5, 31 * 3 * 6, 31 * 8 * 8, 31 * 3 * 2 + 1922 * 5 * 2 * 2};
        int[] sizes = {8, 3, 5, 2};
        int[] orders = {NONE, 4, 4, 3};
        for (int op = MUL; op <= POWMOD; op++) {
            DUE.is("8: submit", x.submit(op, a, b, m), op);
            DUE.is("8: it is WAITING", x.jobState(op), WAITING);
            DUE.is("8: WORK", x.workLeft(op), works[op]);
            DUE.is("8: it is at the queue's end", x.count(4, op), op);
        }
        DUE.is("8: pins of a", x.number(a, 2), 4);
        DUE.is("8: pins of b", x.number(b, 2), 4);
        DUE.is("8: pins of m", x.number(m, 2), 1);
        for (int op = MUL; op <= POWMOD; op++) {
            int before = x.freeCells();
            x.tick();
            int h = x.jobResult(op);
            DUE.is("8: size of the result of " + op, x.sizeOf(h), sizes[op]);
            int room = orders[op] == NONE ? 0 : 1 << orders[op];
            DUE.is("8: the result and the ROOM of " + op, before - x.freeCells(), (1 << x.number(h, 1)) + room);
        }
        x.cancel(1);
        DUE.is("8: the least free number only after forget", x.submit(MUL, a, a, NONE), 4);
        x.forget(1);
        DUE.is("8: the least free number", x.submit(MUL, a, a, NONE), 1);
        DUE.is("8: a twice", x.number(a, 2), 4 - 1 + 2 + 2);
        DUE.is("8: at the end of the queue", x.count(4, 4), 1);
        LimbKernel y = new LimbKernel(11, 12, 8, 10);
        y.newNumber(2048);
        y.setLimb(0, 0, 1);
        DUE.is("8: a job that never has room", y.submit(POWMOD, 0, 0, 0), 0);
        DUE.is("8: its WORK", y.workLeft(0), 31L * 2048 * 2048 + 1922L * 2048 * 2048 * 2048);
    }

    /** What a job of an operation takes of the pool, with operands of n, m and k limbs: a result and a ROOM, in limbs of their blocks. */
    private static void needs(int op, int n, int m, int k, int result, int room) {
        LimbKernel x = new LimbKernel(9, 1, 4, 10);
        for (int size : new int[] {n, m, k}) {
            x.setLimb(x.newNumber(size), 0, 1);
        }
        int before = x.freeCells();
        x.submit(op, 0, 1, 2);
        x.tick();
        String what = "8: op " + op + " of " + n + ", " + m + ", " + k + " limbs";
        DUE.is(what + ": the result's block", 1 << x.number(3, 1), result);
        DUE.is(what + ": the ROOM's block", before - x.freeCells() - result, room);
    }

    private static void needsAtTheirEdges() {
        needs(MUL, 1, 1, 1, 2, 0);
        needs(MUL, 3, 5, 1, 8, 0);
        needs(MUL, 4, 5, 1, 16, 0);
        needs(DIVQ, 1, 1, 1, 1, 4);
        needs(DIVQ, 1, 2, 1, 1, 4);
        needs(DIVQ, 2, 2, 1, 2, 8);
        needs(DIVQ, 4, 3, 1, 4, 8);
        needs(DIVQ, 5, 3, 1, 8, 16);
        needs(GCD, 1, 1, 1, 1, 4);
        needs(GCD, 1, 3, 1, 4, 8);
        needs(GCD, 3, 2, 1, 4, 16);
        needs(GCD, 4, 4, 1, 4, 16);
        needs(POWMOD, 7, 9, 1, 1, 4);
        needs(POWMOD, 7, 9, 2, 2, 8);
        needs(POWMOD, 7, 9, 5, 8, 16);
        needs(POWMOD, 7, 9, 6, 8, 32);
    }

    /** The result's block and the ROOM's come out of one free block. */
    private static void tickHalvesForBoth() {
        LimbKernel x = with(4, 1, 5, 10, 9, 2);
        x.newNumber(2);
        x.newNumber(4);
        x.submit(DIVQ, 0, 1, 0);
        x.tick();
        DUE.is("9: RUNNING", x.jobState(0), RUNNING);
        DUE.is("9: the result is at its beginning", x.number(4, 0), 8);
        DUE.is("9: the ROOM is its upper half", x.freeBlock(2, NONE), 0);
        DUE.is("9: what is left of it", x.freeCells(), 3);
        LimbKernel y = new LimbKernel(5, 1, 5, 10);
        y.newNumber(5);
        y.newNumber(1);
        y.setLimb(1, 0, 1);
        y.newNumber(1);
        y.newNumber(2);
        y.newNumber(4);
        DUE.is("9: one block of 16", y.freeBlock(4, 0), 16);
        y.submit(DIVQ, 0, 1, 0);
        y.tick();
        DUE.is("9: WAITING for a handle", y.jobState(0), WAITING);
        y.release(2);
        y.tick();
        DUE.is("9: two halves of the same order", y.jobState(0), RUNNING);
        DUE.is("9: only the one limb is free", y.freeCells(), 1);
    }

    private static void tickStarts() {
        LimbKernel x = with(4, 2, 4, 10, 9, 2);
        DUE.is("9: nobody's turn", x.tick(), NONE);
        DUE.is("9: which is no turn", x.count(3, 0), 0);
        x.submit(DIVQ, 0, 1, 0);
        DUE.is("9: job 0's turn", x.tick(), 0);
        DUE.is("9: RUNNING", x.jobState(0), RUNNING);
        DUE.is("9: no WORK yet", x.workLeft(0), 62);
        DUE.is("9: the result's handle", x.jobResult(0), 2);
        DUE.is("9: the result's block comes first", x.number(2, 0), 2);
        DUE.is("9: the ROOM's block then", x.freeBlock(2, NONE), 0);
        DUE.is("9: of order 2 at 4", x.freeBlock(3, 0), 8);
        DUE.is("9: the result is pinned", x.number(2, 2), 1);
        DUE.is("9: freeCells", x.freeCells(), 16 - 3 - 4);
        for (int left = 52; left > 0; left -= 10) {
            DUE.is("9: a turn", x.tick(), 0);
            DUE.is("9: the quantum is taken", x.workLeft(0), left);
        }
        DUE.is("9: RUNNING still", x.jobState(0), RUNNING);
        x.tick();
        DUE.is("9: DONE", x.jobState(0), DONE);
        DUE.is("9: 9 / 2", x.getLimb(2, 0), 4);
        LimbKernel y = with(4, 1, 3, 1, 9);
        y.submit(MUL, 0, 0, 0);
        y.run(2);
        DUE.is("9: WORK 1 with a quantum of 1 is DONE at once", y.jobState(0), DONE);
    }

    private static void tickWaitsForRoom() {
        LimbKernel x = with(3, 2, 4, 10, 9, 2);
        int great = x.newNumber(3);
        x.submit(DIVQ, 0, 1, 0);
        DUE.is("9: a turn in vain", x.tick(), 0);
        DUE.is("9: it counts", x.count(3, 0), 1);
        DUE.is("9: WAITING for its ROOM", x.jobState(0), WAITING);
        DUE.is("9: nothing is given", x.freeCells(), 2);
        DUE.is("9: no block is halved", x.freeBlock(1, 0), 2);
        DUE.is("9: no handle is given", x.count(0, 0), 3);
        x.release(great);
        x.newNumber(1);
        x.newNumber(1);
        x.tick();
        DUE.is("9: WAITING for a handle", x.jobState(0), WAITING);
        DUE.is("9: though there is room", x.freeBlock(2, 0), 4);
        x.release(3);
        x.tick();
        DUE.is("9: RUNNING", x.jobState(0), RUNNING);
        LimbKernel y = with(3, 1, 4, 10, 9);
        y.submit(GCD, 0, 0, 0);
        y.newNumber(2);
        y.tick();
        DUE.is("9: the halves of one block are enough", y.jobState(0), RUNNING);
        LimbKernel z = with(3, 1, 4, 10, 9);
        z.newNumber(4);
        z.submit(DIVQ, 0, 0, 0);
        z.tick();
        DUE.is("9: the ROOM of 3 needs all 4", z.jobState(0), WAITING);
        LimbKernel w = new LimbKernel(4, 1, 4, 10);
        w.newNumber(3);
        w.setLimb(0, 2, 1);
        w.newNumber(4);
        w.submit(DIVQ, 0, 0, 0);
        w.tick();
        DUE.is("9: the result would halve the ROOM's block", w.jobState(0), WAITING);
        w.release(1);
        w.tick();
        DUE.is("9: now it does not", w.jobState(0), RUNNING);
        DUE.is("9: all is given", w.freeCells(), 0);
    }

    private static void tickTakesTurns() {
        LimbKernel x = with(8, 4, 12, 100, 5, 3);
        x.submit(DIVQ, 0, 1, 0);
        x.submit(MUL, 0, 1, 0);
        x.submit(GCD, 0, 1, 0);
        int[] whose = {0, 1, 2, 0, 1, 2, 2, NONE};
        for (int i = 0; i < whose.length; i++) {
            DUE.is("9: turn " + i, x.tick(), whose[i]);
        }
        DUE.is("9: turns in all", x.count(3, 0), 7);
    }

    private static void tickEnds() {
        LimbKernel x = with(6, 5, 9, 2000, 6, 4, 5);
        for (int op = MUL; op <= POWMOD; op++) {
            x.submit(op, 0, 1, 2);
        }
        x.submit(GCD, 0, 0, 0);
        x.run(5);
        int held = x.freeCells();
        x.run(5);
        int[] want = {24, 1, 2, 1, 6};
        for (int j = 0; j < 5; j++) {
            DUE.is("9: DONE", x.jobState(j), DONE);
            int h = x.jobResult(j);
            DUE.is("9: the result of " + j, x.getLimb(h, 0), want[j]);
            DUE.is("9: it is not pinned", x.number(h, 2), 0);
            x.release(h);
        }
        DUE.is("9: the ROOM of 3, 4, 4 and 4 limbs, and results of 2, 1, 1, 1 and 1 are free", x.freeCells() - held, 4 * 4 + 6);
        for (int h = 0; h < 3; h++) {
            DUE.is("9: operands are not pinned", x.number(h, 2), 0);
        }
        DUE.is("9: the queue is empty", x.count(2, 0), 0);
    }

    private static void run() {
        LimbKernel x = with(6, 4, 9, 1, 6, 4);
        for (int n : new int[] {-1, 5001, LEAST, GREATEST}) {
            DUE.is("10: run(" + n + ")", x.run(n), NONE);
        }
        DUE.is("10: with an empty queue", x.run(5000), 0);
        x.submit(POWMOD, 0, 1, 0);
        DUE.is("10: not with wrong n", x.run(5001), NONE);
        DUE.is("10: no turn then", x.count(3, 0), 0);
        DUE.is("10: none", x.run(0), 0);
        DUE.is("10: no turn then", x.count(3, 0), 0);
        DUE.is("10: one", x.run(1), 1);
        DUE.is("10: RUNNING", x.jobState(0), RUNNING);
        DUE.is("10: up to the end", x.run(5000), 31 + 1922);
        DUE.is("10: DONE", x.jobState(0), DONE);
        x.newNumber(32);
        x.submit(GCD, 3, 3, 0);
        DUE.is("10: turns in vain", x.run(5000), 5000);
        DUE.is("10: they count", x.count(3, 0), 1 + 31 + 1922 + 5000);
    }

    private static void jobState() {
        LimbKernel x = with(6, 4, 9, 10, 6, 4);
        for (int j : NO_SUCH) {
            DUE.is("11: no job", x.jobState(j), NONE);
        }
        DUE.is("11: no job yet", x.jobState(0), NONE);
        x.submit(MUL, 0, 1, 0);
        DUE.is("11: WAITING", x.jobState(0), WAITING);
        x.tick();
        DUE.is("11: RUNNING", x.jobState(0), RUNNING);
        x.tick();
        DUE.is("11: DONE", x.jobState(0), DONE);
        x.submit(MUL, 0, 1, 0);
        x.cancel(1);
        DUE.is("11: CANCELLED", x.jobState(1), CANCELLED);
        x.forget(0);
        DUE.is("11: forgotten", x.jobState(0), NONE);
        DUE.is("11: beyond the most", x.jobState(4), NONE);
    }

    private static void jobResult() {
        LimbKernel x = with(6, 4, 9, 10, 6, 4);
        for (int j : NO_SUCH) {
            DUE.is("12: no job", x.jobResult(j), NONE);
        }
        x.submit(MUL, 0, 1, 0);
        DUE.is("12: WAITING", x.jobResult(0), NONE);
        x.tick();
        DUE.is("12: RUNNING", x.jobResult(0), 2);
        x.tick();
        DUE.is("12: DONE", x.jobResult(0), 2);
        x.release(2);
        DUE.is("12: released", x.jobResult(0), NONE);
        x.newNumber(1);
        DUE.is("12: the handle of another number now", x.jobResult(0), NONE);
        x.submit(MUL, 0, 1, 0);
        x.tick();
        x.cancel(1);
        DUE.is("12: CANCELLED", x.jobResult(1), NONE);
        x.forget(1);
        x.submit(MUL, 0, 1, 0);
        x.run(2);
        x.forget(1);
        DUE.is("12: forgotten", x.jobResult(1), NONE);
        x.submit(MUL, 0, 1, 0);
        DUE.is("12: a new job has none yet", x.jobResult(1), NONE);
    }

    private static void workLeft() {
        LimbKernel x = with(6, 4, 9, 10, 6, 4);
        for (int j : NO_SUCH) {
            DUE.is("13: no job", x.workLeft(j), NONE);
        }
        x.submit(DIVQ, 0, 1, 0);
        x.submit(GCD, 0, 1, 0);
        DUE.is("13: WAITING", x.workLeft(0), 62);
        x.run(2);
        DUE.is("13: RUNNING", x.workLeft(0), 62);
        x.run(2);
        DUE.is("13: after a turn", x.workLeft(0), 52);
        DUE.is("13: after a turn", x.workLeft(1), 114);
        x.cancel(1);
        DUE.is("13: CANCELLED", x.workLeft(1), 0);
        x.run(20);
        DUE.is("13: DONE, and not below 0", x.workLeft(0), 0);
        x.forget(0);
        DUE.is("13: forgotten", x.workLeft(0), NONE);
    }

    private static void cancel() {
        LimbKernel x = with(6, 4, 9, 10, 6, 4);
        for (int j : NO_SUCH) {
            DUE.is("14: no job", x.cancel(j), false);
        }
        x.submit(DIVQ, 0, 1, 0);
        x.submit(GCD, 0, 1, 0);
        x.submit(POWMOD, 0, 1, 1);
        DUE.is("14: WAITING", x.cancel(1), true);
        DUE.is("14: CANCELLED", x.jobState(1), CANCELLED);
        DUE.is("14: once only", x.cancel(1), false);
        DUE.is("14: it left the queue", x.count(2, 0), 2);
        DUE.is("14: the others are in their order", 10 * x.count(4, 0) + x.count(4, 1), 2);
        DUE.is("14: pins of a", x.number(0, 2), 2);
        DUE.is("14: pins of b", x.number(1, 2), 3);
        x.run(2);
        DUE.is("14: two results", x.count(0, 0), 4);
        DUE.is("14: RUNNING", x.cancel(2), true);
        DUE.is("14: its result went", x.sizeOf(3), NONE);
        DUE.is("14: pins of b and m", x.number(1, 2), 1);
        DUE.is("14: RUNNING", x.cancel(0), true);
        DUE.is("14: its result went", x.sizeOf(2), NONE);
        DUE.is("14: no pins", x.number(0, 2) + x.number(1, 2), 0);
        DUE.is("14: all blocks are free", x.freeCells(), 62);
        DUE.is("14: joined", x.freeBlock(5, 0), 32);
        DUE.is("14: no turn is left", x.tick(), NONE);
        DUE.is("14: the jobs are there still", x.count(1, 0), 3);
        x.submit(MUL, 0, 1, 0);
        x.run(2);
        DUE.is("14: DONE", x.cancel(3), false);
        DUE.is("14: its result stays", x.getLimb(2, 0), 24);
        LimbKernel y = with(6, 3, 9, 10, 6);
        y.submit(DIVQ, 0, 0, 0);
        y.submit(DIVQ, 0, 0, 0);
        y.submit(DIVQ, 0, 0, 0);
        y.tick();
        y.cancel(1);
        DUE.is("14: in the middle, after a turn", 10 * y.count(4, 0) + y.count(4, 1), 20);
        y.cancel(0);
        DUE.is("14: the result's handle is free", y.newNumber(2), 1);
        DUE.is("14: the number that has it now is no result", y.getLimb(1, 0), 0);
        DUE.is("14: nor pinned", y.setLimb(1, 0, 8), true);
    }

    private static void forget() {
        LimbKernel x = with(6, 2, 9, 10, 6, 4);
        for (int j : NO_SUCH) {
            DUE.is("15: no job", x.forget(j), false);
        }
        x.submit(MUL, 0, 1, 0);
        DUE.is("15: WAITING", x.forget(0), false);
        x.tick();
        DUE.is("15: RUNNING", x.forget(0), false);
        DUE.is("15: it is there still", x.jobState(0), RUNNING);
        x.tick();
        DUE.is("15: DONE", x.forget(0), true);
        DUE.is("15: the result stays", x.getLimb(2, 0), 24);
        DUE.is("15: once only", x.forget(0), false);
        DUE.is("15: one job less", x.count(1, 0), 0);
        x.submit(MUL, 0, 1, 0);
        x.submit(MUL, 0, 1, 0);
        x.cancel(0);
        DUE.is("15: no number is free", x.submit(MUL, 0, 1, 0), NO_JOB);
        DUE.is("15: CANCELLED", x.forget(0), true);
        DUE.is("15: its number is free", x.submit(MUL, 0, 1, 0), 0);
        DUE.is("15: the new one is at the queue's end", x.count(4, 1), 0);
    }

    private static void freeCells() {
        LimbKernel x = new LimbKernel(11, 2, 24, 2000);
        DUE.is("16: all", x.freeCells(), 2048);
        x.newNumber(5);
        DUE.is("16: less a block of 8", x.freeCells(), 2040);
        x.newNumber(1024);
        DUE.is("16: less a block of 1024", x.freeCells(), 1016);
        x.setLimb(0, 0, 1);
        x.submit(DIVQ, 0, 0, 0);
        x.tick();
        DUE.is("16: less a result of 8 and a ROOM of 16", x.freeCells(), 1016 - 24);
        x.run(5000);
        DUE.is("16: less a result", x.freeCells(), 1008);
        x.release(1);
        DUE.is("16: more", x.freeCells(), 2032);
        x.newNumber(1024);
        x.newNumber(512);
        x.newNumber(256);
        x.newNumber(128);
        x.newNumber(64);
        x.newNumber(32);
        x.newNumber(16);
        DUE.is("16: none", x.freeCells(), 0);
    }

    private static void freeBlock() {
        LimbKernel x = new LimbKernel(4, 2, 24, 2000);
        for (int order : new int[] {-1, 5, LEAST, GREATEST}) {
            DUE.is("17: no such order", x.freeBlock(order, NONE), NONE);
            DUE.is("17: no such order", x.freeBlock(order, 0), NONE);
        }
        for (int order = 0; order < 4; order++) {
            DUE.is("17: none of the order", x.freeBlock(order, NONE), 0);
            DUE.is("17: not the first", x.freeBlock(order, 0), NONE);
        }
        DUE.is("17: the whole pool", x.freeBlock(4, NONE), 1);
        DUE.is("17: at 0", x.freeBlock(4, 0), 0);
        for (int h = 0; h < 16; h++) {
            x.newNumber(1);
        }
        for (int h : new int[] {11, 1, 14, 4, 8, 9}) {
            x.release(h);
        }
        int[] addresses = {1, 4, 11, 14};
        DUE.is("17: how many", x.freeBlock(0, NONE), 4);
        for (int k = 0; k < 4; k++) {
            DUE.is("17: by addresses", x.freeBlock(0, k), addresses[k]);
        }
        for (int k : new int[] {4, 5, -2, LEAST, GREATEST}) {
            DUE.is("17: no such block", x.freeBlock(0, k), NONE);
        }
        DUE.is("17: a pair", x.freeBlock(1, 0), 8);
        DUE.is("17: no second pair", x.freeBlock(1, 1), NONE);
    }

    private static void number() {
        LimbKernel x = new LimbKernel(6, 2, 8, 2000);
        x.newNumber(1);
        x.newNumber(6);
        DUE.is("18: address", x.number(0, 0), 0);
        DUE.is("18: order", x.number(0, 1), 0);
        DUE.is("18: pins", x.number(0, 2), 0);
        DUE.is("18: address", x.number(1, 0), 8);
        DUE.is("18: order", x.number(1, 1), 3);
        for (int what : new int[] {-1, 3, LEAST, GREATEST}) {
            DUE.is("18: no such what", x.number(0, what), NONE);
        }
        for (int h : NO_SUCH) {
            for (int what = 0; what < 3; what++) {
                DUE.is("18: no number", x.number(h, what), NONE);
            }
        }
        DUE.is("18: a free handle", x.number(2, 0), NONE);
        x.submit(MUL, 0, 0, 0);
        x.submit(MUL, 0, 1, 0);
        DUE.is("18: each operand is a pin", x.number(0, 2), 3);
        x.tick();
        DUE.is("18: the result's pin", x.number(2, 2), 1);
        DUE.is("18: the result's address", x.number(2, 0), 2);
        DUE.is("18: the result's order", x.number(2, 1), 1);
        x.run(2);
        DUE.is("18: one job is done", x.number(0, 2), 1);
        DUE.is("18: its result has no pin", x.number(2, 2), 0);
    }

    private static void count() {
        LimbKernel x = with(6, 4, 8, 10, 6, 4, 9);
        x.release(1);
        DUE.is("19: handles", x.count(0, 77), 2);
        DUE.is("19: jobs", x.count(1, -77), 0);
        DUE.is("19: queue", x.count(2, 0), 0);
        DUE.is("19: turns", x.count(3, 0), 0);
        DUE.is("19: nobody", x.count(4, 0), NONE);
        for (int what : new int[] {-1, 5, LEAST, GREATEST}) {
            DUE.is("19: no such what", x.count(what, 0), NONE);
        }
        x.submit(MUL, 0, 2, 0);
        x.submit(GCD, 0, 2, 0);
        x.submit(GCD, 0, 2, 0);
        DUE.is("19: jobs", x.count(1, 0), 3);
        x.tick();
        int[] order = {1, 2, 0};
        for (int k = 0; k < 3; k++) {
            DUE.is("19: the k-th", x.count(4, k), order[k]);
        }
        for (int k : new int[] {3, 4, -1, LEAST, GREATEST}) {
            DUE.is("19: without", x.count(4, k), NONE);
        }
        DUE.is("19: with a result", x.count(0, 0), 3);
        x.run(3);
        x.cancel(1);
        DUE.is("19: jobs done and called off, too", x.count(1, 0), 3);
        DUE.is("19: queue", x.count(2, 0), 1);
        DUE.is("19: turns", x.count(3, 0), 4);
        DUE.is("19: handles", x.count(0, 0), 4);
        DUE.is("19: the one that is left", x.count(4, 0), 2);
    }
}
