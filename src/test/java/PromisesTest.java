/** Promises 1 to 19. */
public final class PromisesTest extends Sentences {
    public static void main(String[] args) {
        new PromisesTest().runAll();
    }

    PromisesTest() {
        ofTheObject();
        ofNumbers();
        ofJobs();
        ofTheEndOfJobs();
        ofLooks();
    }

    private void ofTheObject() {
        section("Promise 1: A new object");
        sentence("POOLLOG is 3 .. 11,", this::poolLog);
        sentence("MOST JOBS 1 .. 12,", this::mostJobs);
        sentence("MOST HANDLES 1 .. 24,", this::mostHandles);
        sentence("the QUANTUM 1 .. 2000:", this::quantum);
        sentence("what is below, above these is the least, the greatest of them.", this::leastAndGreatest);
        sentence("All is empty.", this::allIsEmpty);
        section("Promise 2: init");
        sentence("All is as at first", this::asAtFirst);
        sentence("(with the numbers told to the constructor):", this::asTold);
        sentence("how many jobs and handles there were.", this::howManyThereWere);
    }

    private void ofNumbers() {
        section("Promise 3: newNumber");
        sentence("A number 0 with so many limbs: its handle.", this::newNumber);
        sentence("BAD_SIZE: not 1 .. the limbs of the pool;", this::badSize);
        sentence("NO_HANDLE: there are as many as may be;", this::noHandle);
        sentence("NO_ROOM: there is no such block", this::noRoom);
        sentence("(asked in this order).", this::newNumberInOrder);
        section("Promise 4: setLimb");
        sentence("Limb i of a number becomes w:", this::setLimb);
        sentence("whether there is such a number,", this::setLimbOfNoNumber);
        sentence("which is not pinned,", this::setLimbOfAPinnedOne);
        sentence("such a limb,", this::setLimbOfNoLimb);
        sentence("and w is 0 or more.", this::setLimbBelowZero);
        section("Promise 5: getLimb");
        sentence("Limb i of a number;", this::getLimb);
        sentence("NONE: there is no such number or limb,", this::getNoLimb);
        sentence("or it is the result of a job that is not done.", this::getLimbNotDone);
        section("Promise 6: sizeOf");
        sentence("How many limbs a number has;", this::sizeOf);
        sentence("NONE: there is no such number.", this::sizeOfNoNumber);
        section("Promise 7: release");
        sentence("A number goes,", this::release);
        sentence("its block is free:", this::releasedBlock);
        sentence("whether there was one,", this::releaseOfNone);
        sentence("which was not pinned.", this::releaseOfAPinnedOne);
    }

    private void ofJobs() {
        section("Promise 8: submit");
        sentence("A new job of an operation, with operands a, b, and (POWMOD) m: its number.", this::submit);
        sentence("BAD_OP: no such operation;", this::badOp);
        sentence("BAD_HANDLE: an operand (m for POWMOD alone) is no number,", this::badHandle);
        sentence("or the result of a job that is not done;", this::resultNotDone);
        sentence("DIV_ZERO: b is 0 for DIVQ,", this::dividedByZero);
        sentence("m for POWMOD;", this::moduloZero);
        sentence("NO_JOB: there are as many as may be", this::noJob);
        sentence("(asked in this order).", this::submitInOrder);
        section("Promise 9: tick");
        sentence("A TURN: whose it was;", this::tick);
        sentence("NONE: the queue is empty.", this::tickOfNobody);
        section("Promise 10: run");
        sentence("n turns,", this::run);
        sentence("as long as the queue is not empty: how many were done;", this::runToTheEnd);
        sentence("NONE when n is not 0 .. 5000.", this::runOfWrongN);
        section("Promise 11: jobState");
        sentence("What a job is, 0 to 3;", this::jobState);
        sentence("NONE: there is none.", this::stateOfNoJob);
        section("Promise 12: jobResult");
        sentence("The handle of a job's result: RUNNING or DONE;", this::jobResult);
        sentence("NONE: there is no job,", this::resultOfNoJob);
        sentence("or it is something else,", this::resultOfAnother);
        sentence("or the result was released.", this::resultReleased);
        section("Promise 13: workLeft");
        sentence("The WORK that is left to a job;", this::workLeft);
        sentence("0: it is DONE or CANCELLED;", this::noWorkLeft);
        sentence("NONE: there is none.", this::workOfNoJob);
    }

    private void ofTheEndOfJobs() {
        section("Promise 14: cancel");
        sentence("A job that is WAITING or RUNNING is CANCELLED:", this::cancel);
        sentence("it leaves the queue,", this::cancelledLeavesTheQueue);
        sentence("its operands are pinned by it no more,", this::cancelledPinsNoMore);
        sentence("its result goes,", this::cancelledResultGoes);
        sentence("its blocks are free:", this::cancelledBlocksAreFree);
        sentence("whether it was so.", this::cancelOfOthers);
        section("Promise 15: forget");
        sentence("A job that is DONE or CANCELLED goes", this::forget);
        sentence("(a result stays):", this::forgottenResultStays);
        sentence("whether it was so.", this::forgetOfOthers);
    }

    private void ofLooks() {
        section("Promise 16: freeCells");
        sentence("How many limbs are in free blocks.", this::freeCells);
        section("Promise 17: freeBlock");
        sentence("How many free blocks of an order there are (k = NONE),", this::freeBlocks);
        sentence("or the address of the k-th one, by addresses;", this::freeBlockAddress);
        sentence("NONE: there is no such order (0 .. POOLLOG)", this::freeBlockOfNoOrder);
        sentence("or block.", this::noFreeBlock);
        section("Promise 18: number");
        sentence("Of a number: what = 0 its address,", this::numberAddress);
        sentence("1 the order of its block,", this::numberOrder);
        sentence("2 its pins;", this::numberPins);
        sentence("NONE: there is none,", this::numberOfNone);
        sentence("or no such what.", this::numberOfNoWhat);
        section("Promise 19: count");
        sentence("How many: what = 0 handles in use,", this::countHandles);
        sentence("1 jobs (DONE and CANCELLED ones, too),", this::countJobs);
        sentence("2 jobs in the queue,", this::countQueue);
        sentence("3 turns in all since the beginning,", this::countTurns);
        sentence("4 the k-th job in the queue (0 the first; NONE without);", this::jobInTheQueue);
        sentence("NONE for another what.", this::countOfNoWhat);
        sentence("(k is for 4 alone.)", this::kIsForFourAlone);
    }

    // ---- 1: a new object

    private void poolLog() {
        int[][] pools = {{3, 8}, {4, 16}, {10, 1024}, {11, 2048}};
        for (int[] pool : pools) {
            LimbKernel x = new LimbKernel(pool[0], 1, 1, 1);
            due.is("the limbs of a pool of " + pool[0], x.freeCells(), pool[1]);
            due.is("free blocks of its order", x.freeBlock(pool[0], NONE), 1);
            due.is("free blocks of the next order", x.freeBlock(pool[0] + 1, NONE), NONE);
        }
    }

    private void mostJobs() {
        for (int most = 1; most <= 12; most++) {
            due.is("jobs, told " + most, jobsThatMayBe(new LimbKernel(11, most, 24, 1)), most);
        }
    }

    private void mostHandles() {
        for (int most = 1; most <= 24; most++) {
            due.is("handles, told " + most, handlesThatMayBe(new LimbKernel(11, 1, most, 1)), most);
        }
    }

    private void quantum() {
        for (int quantum : new int[] {1, 2, 50, 1999, 2000}) {
            due.is("the quantum, told " + quantum, quantumOf(new LimbKernel(11, 1, 4, quantum)), quantum);
        }
    }

    private void leastAndGreatest() {
        for (int below : new int[] {LEAST, LEAST + 1, -256, -1, 0}) {
            due.is("the pool, told " + below, new LimbKernel(below, 1, 1, 1).freeCells(), 8);
            due.is("jobs, told " + below, jobsThatMayBe(new LimbKernel(11, below, 24, 1)), 1);
            due.is("handles, told " + below, handlesThatMayBe(new LimbKernel(11, 1, below, 1)), 1);
            due.is("the quantum, told " + below, quantumOf(new LimbKernel(11, 1, 4, below)), 1);
        }
        due.is("the pool, told 2", new LimbKernel(2, 1, 1, 1).freeCells(), 8);
        for (int above : new int[] {2001, 65536, 1 << 30, GREATEST}) {
            due.is("the pool, told " + above, new LimbKernel(above, 1, 1, 1).freeCells(), 2048);
            due.is("jobs, told " + above, jobsThatMayBe(new LimbKernel(11, above, 24, 1)), 12);
            due.is("handles, told " + above, handlesThatMayBe(new LimbKernel(11, 1, above, 1)), 24);
            due.is("the quantum, told " + above, quantumOf(new LimbKernel(11, 1, 4, above)), 2000);
        }
        due.is("the pool, told 12", new LimbKernel(12, 1, 1, 1).freeCells(), 2048);
        due.is("jobs, told 13", jobsThatMayBe(new LimbKernel(11, 13, 24, 1)), 12);
        due.is("handles, told 25", handlesThatMayBe(new LimbKernel(11, 1, 25, 1)), 24);
        due.is("free blocks of order 3 of the least pool", new LimbKernel(LEAST, 1, 1, 1).freeBlock(3, NONE), 1);
        due.is("of order 4", new LimbKernel(LEAST, 1, 1, 1).freeBlock(4, NONE), NONE);
        due.is("free blocks of order 11 of the greatest pool", new LimbKernel(GREATEST, 1, 1, 1).freeBlock(11, NONE), 1);
        due.is("of order 12", new LimbKernel(GREATEST, 1, 1, 1).freeBlock(12, NONE), NONE);
    }

    private void allIsEmpty() {
        String empty = "queue of 0:; 1 free of order 5: 0; handles 0, jobs 0, free limbs 32, turns 0";
        due.is("what is seen", View.of(new LimbKernel(5, 12, 24, 2)), empty);
        due.is("init", new LimbKernel(5, 12, 24, 2).init(), 0);
        due.is("the first handle", new LimbKernel(5, 12, 24, 2).newNumber(32), 0);
        due.is("the first job", with(5, 12, 24, 2, 1).submit(MUL, 0, 0, NONE), 0);
    }

    // ---- 2: init

    private void asAtFirst() {
        LimbKernel x = busy();
        x.init();
        LimbKernel first = new LimbKernel(6, 5, 8, 50);
        due.is("what is seen", View.of(x), View.of(first));
        for (LimbKernel each : new LimbKernel[] {x, first}) {
            each.newNumber(2);
            each.setLimb(each.newNumber(3), 0, 3);
            each.submit(GCD, 0, 1, NONE);
            each.submit(MUL, 0, 0, NONE);
            each.tick();
        }
        due.is("what is seen after calls", View.of(x), View.of(first));
        for (LimbKernel each : new LimbKernel[] {x, first}) {
            each.cancel(0);
            each.run(5000);
        }
        due.is("what is seen after more calls", View.of(x), View.of(first));
        x.init();
        x.init();
        due.is("what is seen when it is called twice", View.of(x), View.of(new LimbKernel(6, 5, 8, 50)));
        due.is("a number of all limbs", x.newNumber(64), 0);
        for (int i = 0; i < 64; i++) {
            due.is("its limb " + i, x.getLimb(0, i), 0);
        }
        earlierRoomIsForgotten();
    }

    /** A ROOM of a job that there was must not be given back by a later job with its number. */
    private void earlierRoomIsForgotten() {
        LimbKernel x = with(8, 4, 8, 50, 7);
        x.submit(DIVQ, 0, 0, NONE);
        x.tick();
        x.init();
        x.newNumber(1);
        x.submit(MUL, 0, 0, NONE);
        x.tick();
        x.cancel(0);
        due.is("free limbs beside one number", x.freeCells(), 255);
    }

    private void asTold() {
        LimbKernel x = new LimbKernel(7, 3, 5, 70);
        x.init();
        due.is("the pool", x.freeCells(), 128);
        due.is("jobs", jobsThatMayBe(x), 3);
        x.init();
        due.is("handles", handlesThatMayBe(x), 5);
        x.init();
        due.is("the quantum", quantumOf(x), 70);
        LimbKernel y = new LimbKernel(-1, 99, 99, 9999);
        y.init();
        due.is("the least pool", y.freeCells(), 8);
        due.is("the greatest number of jobs", jobsThatMayBe(y), 12);
        y.init();
        due.is("handles, as many as there are limbs", handlesThatMayBe(y), 8);
    }

    private void howManyThereWere() {
        due.is("of an empty one", new LimbKernel(6, 4, 8, 50).init(), 0);
        due.is("with two handles", with(6, 4, 8, 50, 1, 2).init(), 2);
        due.is("with six handles and four jobs, one of each state", busy().init(), 10);
        LimbKernel x = busy();
        x.init();
        due.is("again", x.init(), 0);
        LimbKernel y = with(6, 4, 8, 50, 1, 2);
        y.release(0);
        y.submit(MUL, 1, 1, NONE);
        y.run(2);
        y.release(0);
        due.is("with a handle and a job whose result was released", y.init(), 2);
        LimbKernel z = with(6, 4, 8, 50, 1, 2);
        z.submit(MUL, 1, 1, NONE);
        z.cancel(0);
        z.forget(0);
        due.is("with a job that is forgotten", z.init(), 2);
    }

    // ---- 3: newNumber

    private void newNumber() {
        LimbKernel x = new LimbKernel(4, 1, 3, 1);
        x.newNumber(16);
        for (int i = 0; i < 16; i++) {
            x.setLimb(0, i, GREATEST);
        }
        x.release(0);
        for (int h = 0; h < 3; h++) {
            due.is("the handle", x.newNumber(1 + h), h);
            due.is("how many limbs", x.sizeOf(h), 1 + h);
            for (int i = 0; i <= h; i++) {
                due.is("limb " + i, x.getLimb(h, i), 0);
            }
            due.is("pins", x.number(h, 2), 0);
        }
    }

    private void badSize() {
        for (int log : new int[] {3, 6, 11}) {
            for (int limbs : new int[] {0, -1, (1 << log) + 1, LEAST, LEAST + 1, -(1 << log), GREATEST}) {
                refuses("newNumber(" + limbs + ")", () -> new LimbKernel(log, 1, 3, 1), x -> x.newNumber(limbs), BAD_SIZE);
            }
            due.is("one limb", new LimbKernel(log, 1, 3, 1).newNumber(1), 0);
            due.is("all limbs", new LimbKernel(log, 1, 3, 1).newNumber(1 << log), 0);
        }
    }

    private void noHandle() {
        for (int most : new int[] {1, 2, 24}) {
            LimbKernel x = new LimbKernel(8, 1, most, 1);
            for (int h = 0; h < most; h++) {
                due.is("handle " + h + " of " + most, x.newNumber(1), h);
            }
            due.is("one more", x.newNumber(1), NO_HANDLE);
            x.release(most - 1);
            due.is("when one was released", x.newNumber(1), most - 1);
        }
        refuses("newNumber", () -> with(8, 1, 3, 1, 1, 2, 3), x -> x.newNumber(1), NO_HANDLE);
        LimbKernel y = with(8, 1, 2, 1, 3);
        y.submit(MUL, 0, 0, NONE);
        due.is("the handle of a result is not taken yet", y.newNumber(1), 1);
        y.release(1);
        y.tick();
        due.is("now it is", y.newNumber(1), NO_HANDLE);
    }

    private void noRoom() {
        refuses("a full pool: one limb", () -> sized(4, 1, 8, 1, 16), x -> x.newNumber(1), NO_ROOM);
        refuses("one limb less than full: two limbs", () -> sized(4, 1, 8, 1, 8, 4, 2, 1), x -> x.newNumber(2), NO_ROOM);
        due.is("one limb", sized(4, 1, 8, 1, 8, 4, 2, 1).newNumber(1), 4);
        refuses("half a pool is free: nine limbs", () -> sized(4, 1, 8, 1, 8), x -> x.newNumber(9), NO_ROOM);
        due.is("eight limbs", sized(4, 1, 8, 1, 8).newNumber(8), 1);
        refuses("15 are free: nine limbs", () -> sized(4, 1, 8, 1, 1), x -> x.newNumber(9), NO_ROOM);
        LimbKernel y = sized(3, 1, 8, 1, 2, 2, 2, 2);
        y.release(1);
        y.release(2);
        due.is("four are free, but in no one block: three limbs", y.newNumber(3), NO_ROOM);
        y.release(3);
        due.is("six are free, the upper half is whole", y.newNumber(3), 1);
    }

    private void newNumberInOrder() {
        due.is("no handle and no room: one limb", sized(4, 1, 1, 1, 16).newNumber(1), NO_HANDLE);
        due.is("no handle, no room and a bad size: 17 limbs", sized(4, 1, 1, 1, 16).newNumber(17), BAD_SIZE);
        due.is("0 limbs", sized(4, 1, 1, 1, 16).newNumber(0), BAD_SIZE);
        due.is("no handle and a bad size", sized(4, 1, 1, 1, 1).newNumber(-1), BAD_SIZE);
        due.is("no room and a bad size", sized(4, 1, 2, 1, 16).newNumber(17), BAD_SIZE);
        due.is("no handle, but room", sized(4, 1, 1, 1, 1).newNumber(1), NO_HANDLE);
        due.is("no room, but a handle", sized(4, 1, 2, 1, 16).newNumber(1), NO_ROOM);
    }

    // ---- 4: setLimb

    private void setLimb() {
        LimbKernel x = sized(5, 2, 6, 1000, 3, 3);
        due.is("the first limb", x.setLimb(1, 0, 11), true);
        due.is("the last limb", x.setLimb(1, 2, GREATEST), true);
        due.is("the limbs", limbsOf(x, 1), "[11, 0, 2147483647]");
        due.is("again", x.setLimb(1, 2, 12), true);
        due.is("to 0", x.setLimb(1, 0, 0), true);
        due.is("the limbs", limbsOf(x, 1), "[0, 0, 12]");
        due.is("the other number's limbs", limbsOf(x, 0), "[1, 0, 0]");
        x.submit(MUL, 1, 1, NONE);
        x.run(5000);
        due.is("of a result that is done", x.setLimb(2, 0, 5), true);
        due.is("its limbs", limbsOf(x, 2), "[5, 0, 0, 0, 144, 0]");
    }

    private void setLimbOfNoNumber() {
        for (int h : NO_SUCH) {
            due.is("of " + h, busy().setLimb(h, 0, 1), false);
            due.is("of " + h + " when all others are there", full().setLimb(h, 0, 1), false);
        }
        refuses("of the next free handle", x -> asLong(x.setLimb(6, 0, 1)), 0);
        refuses("of the handle beyond the last", x -> asLong(x.setLimb(8, 0, 1)), 0);
        LimbKernel y = with(6, 1, 2, 1, 5, 6);
        y.release(0);
        due.is("of one that was released", y.setLimb(0, 0, 1), false);
    }

    private void setLimbOfAPinnedOne() {
        for (int h : new int[] {0, 1, 3}) {
            refuses("of an operand", x -> asLong(x.setLimb(h, 0, 1)), 0);
        }
        refuses("of a result that is not done", x -> asLong(x.setLimb(5, 0, 1)), 0);
        due.is("of one that is not pinned", busy().setLimb(2, 0, 1), true);
        due.is("of a result that is done", busy().setLimb(4, 0, 1), true);
        LimbKernel y = busy();
        y.cancel(2);
        due.is("of an operand of two jobs, one of them called off", y.setLimb(0, 0, 1), false);
        y.cancel(3);
        due.is("both of them", y.setLimb(0, 0, 1), true);
    }

    /** Limb 3 of a number of 3 limbs lies in its block, but is none of its limbs. */
    private void setLimbOfNoLimb() {
        for (int i : new int[] {3, 4, -1, -2, 256, 65536, 1 << 30, LEAST, LEAST + 1, GREATEST, GREATEST - 4}) {
            refuses("limb " + i + " of 3", () -> sized(4, 1, 4, 1, 4, 3, 4), x -> asLong(x.setLimb(1, i, 7)), 0);
        }
        due.is("limb 2 of 3", sized(4, 1, 4, 1, 4, 3, 4).setLimb(1, 2, 7), true);
        due.is("limb 0 of 3", sized(4, 1, 4, 1, 4, 3, 4).setLimb(1, 0, 7), true);
    }

    private void setLimbBelowZero() {
        for (int w : new int[] {-1, -2, LEAST, LEAST + 1}) {
            refuses("to " + w, x -> asLong(x.setLimb(2, 0, w)), 0);
        }
        for (int w : new int[] {0, 1, GREATEST}) {
            due.is("to " + w, busy().setLimb(2, 0, w), true);
        }
    }

    // ---- 5: getLimb

    private void getLimb() {
        LimbKernel x = new LimbKernel(6, 2, 8, 2000);
        put(x, 3, GREATEST, 0);
        due.is("limb 0", x.getLimb(0, 0), 3);
        due.is("limb 1", x.getLimb(0, 1), GREATEST);
        due.is("limb 2", x.getLimb(0, 2), 0);
        x.submit(MUL, 0, 0, NONE);
        due.is("of an operand", x.getLimb(0, 1), GREATEST);
        x.tick();
        due.is("of an operand, the job being RUNNING", x.getLimb(0, 1), GREATEST);
        x.tick();
        due.is("of a result that is done", x.getLimb(1, 0), 9);
        due.is("its last limb", x.getLimb(1, 5), 0);
    }

    private void getNoLimb() {
        for (int no : NO_SUCH) {
            due.is("limb 0 of number " + no, busy().getLimb(no, 0), NONE);
            due.is("limb " + no + " of number 0", busy().getLimb(0, no), NONE);
        }
        due.is("of the next free handle", busy().getLimb(6, 0), NONE);
        due.is("of the handle beyond the last", busy().getLimb(8, 0), NONE);
        LimbKernel x = sized(4, 1, 4, 1, 4, 3, 4);
        due.is("limb 2 of 3", x.getLimb(1, 2), 0);
        due.is("limb 3 of 3", x.getLimb(1, 3), NONE);
        due.is("limb 4 of 3", x.getLimb(1, 4), NONE);
        due.is("limb -1 of 3", x.getLimb(1, -1), NONE);
        due.is("limb 2^31 - 4 of 3", x.getLimb(1, GREATEST - 3), NONE);
        x.release(1);
        due.is("of one that was released", x.getLimb(1, 0), NONE);
    }

    private void getLimbNotDone() {
        LimbKernel x = busy();
        due.is("of the result of a RUNNING job", x.getLimb(5, 0), NONE);
        due.is("of the result of a DONE one", x.getLimb(4, 0), 35);
        x.run(5000);
        due.is("when it is DONE", x.getLimb(5, 0), 1);
        LimbKernel y = busy();
        y.cancel(2);
        due.is("when it is CANCELLED", y.getLimb(5, 0), NONE);
        due.is("the next one gets its handle", y.newNumber(1), 5);
        due.is("which is no result", y.getLimb(5, 0), 0);
    }

    // ---- 6: sizeOf

    private void sizeOf() {
        LimbKernel x = sized(11, 2, 6, 1000, 3, 1, 1024);
        due.is("of three", x.sizeOf(0), 3);
        due.is("of one", x.sizeOf(1), 1);
        due.is("of many", x.sizeOf(2), 1024);
        x.submit(MUL, 0, 1, NONE);
        x.tick();
        due.is("of a result that is not done", x.sizeOf(3), 4);
        x.tick();
        due.is("of a result that is done", x.sizeOf(3), 4);
        due.is("of an operand", x.sizeOf(0), 3);
        due.is("of the whole pool", sized(11, 1, 1, 1, 2048).sizeOf(0), 2048);
    }

    private void sizeOfNoNumber() {
        for (int h : NO_SUCH) {
            due.is("of " + h, busy().sizeOf(h), NONE);
        }
        due.is("of the next free handle", busy().sizeOf(6), NONE);
        due.is("of the handle beyond the last", busy().sizeOf(8), NONE);
        due.is("of a new object", new LimbKernel(3, 1, 1, 1).sizeOf(0), NONE);
        LimbKernel x = busy();
        x.release(2);
        due.is("of one that was released", x.sizeOf(2), NONE);
        x.cancel(2);
        due.is("of the result of a job that was called off", x.sizeOf(5), NONE);
    }

    // ---- 7: release

    private void release() {
        LimbKernel x = busy();
        due.is("release", x.release(2), true);
        due.is("its size", x.sizeOf(2), NONE);
        due.is("handles in use", x.count(0, 0), 5);
        due.is("a result that is done", x.release(4), true);
        due.is("its size", x.sizeOf(4), NONE);
        due.is("handles in use", x.count(0, 0), 4);
        due.is("the handle is free", x.newNumber(1), 2);
    }

    private void releasedBlock() {
        LimbKernel x = sized(4, 1, 4, 1, 3, 5);
        x.release(0);
        due.is("free limbs", x.freeCells(), 8);
        due.is("its block and its buddy are one", x.freeBlock(3, 0), 0);
        x.release(1);
        due.is("free limbs", x.freeCells(), 16);
        due.is("the pool is one again", x.freeBlock(4, 0), 0);
        LimbKernel y = sized(3, 1, 1, 1, 8);
        y.release(0);
        due.is("the whole pool", y.freeBlock(3, 0), 0);
    }

    private void releaseOfNone() {
        for (int h : NO_SUCH) {
            due.is("of " + h, busy().release(h), false);
            due.is("of " + h + " when all others are there", full().release(h), false);
        }
        refuses("of the next free handle", x -> asLong(x.release(6)), 0);
        refuses("of the handle beyond the last", x -> asLong(x.release(8)), 0);
        LimbKernel y = busy();
        y.release(2);
        due.is("once more", y.release(2), false);
        due.is("of a new object", new LimbKernel(3, 1, 1, 1).release(0), false);
    }

    private void releaseOfAPinnedOne() {
        for (int h : new int[] {0, 1, 3}) {
            refuses("of an operand", x -> asLong(x.release(h)), 0);
        }
        refuses("of a result that is not done", x -> asLong(x.release(5)), 0);
        LimbKernel y = busy();
        y.run(5000);
        for (int h = 0; h < 7; h++) {
            due.is("of number " + h + " when all jobs are done", y.release(h), true);
        }
        due.is("the pool is one again", y.freeBlock(6, 0), 0);
    }

    // ---- 8: submit

    private void submit() {
        LimbKernel x = sized(8, 12, 8, 10, 3, 5, 2);
        for (int op = MUL; op <= POWMOD; op++) {
            due.is("the number", x.submit(op, 0, 1, 2), op);
            due.is("it is WAITING", x.jobState(op), WAITING);
            due.is("it is at the end of the queue", x.count(4, op), op);
        }
        due.is("pins of a", x.number(0, 2), 4);
        due.is("pins of b", x.number(1, 2), 4);
        due.is("pins of m, which is POWMOD's alone", x.number(2, 2), 1);
        due.is("jobs", x.count(1, 0), 4);
        due.is("no handle is taken yet", x.count(0, 0), 3);
        due.is("no limb is taken yet", x.freeCells(), 256 - 4 - 8 - 2);
        due.is("one operand three times", x.submit(POWMOD, 2, 2, 2), 4);
        due.is("its pins", x.number(2, 2), 4);
    }

    private void badOp() {
        for (int op : new int[] {-1, -2, 4, 5, 256, 65536, LEAST, LEAST + 1, GREATEST}) {
            refuses("op " + op, x -> x.submit(op, 0, 1, 3), BAD_OP);
        }
        for (int op = MUL; op <= POWMOD; op++) {
            due.is("op " + op, busy().submit(op, 0, 1, 3), 4);
        }
    }

    private void badHandle() {
        for (int h : NO_SUCH) {
            for (int op = MUL; op <= POWMOD; op++) {
                due.is("a = " + h + " for op " + op, busy().submit(op, h, 0, 0), BAD_HANDLE);
                due.is("b = " + h + " for op " + op, busy().submit(op, 0, h, 0), BAD_HANDLE);
            }
            due.is("m = " + h + " for POWMOD", busy().submit(POWMOD, 0, 0, h), BAD_HANDLE);
            for (int op = MUL; op < POWMOD; op++) {
                due.is("m = " + h + " for op " + op, busy().submit(op, 0, 0, h), 4);
            }
        }
        for (int h : new int[] {6, 8}) {
            refuses("a free handle as a", x -> x.submit(MUL, h, 0, NONE), BAD_HANDLE);
            refuses("as b", x -> x.submit(MUL, 0, h, NONE), BAD_HANDLE);
            refuses("as m", x -> x.submit(POWMOD, 0, 0, h), BAD_HANDLE);
        }
        LimbKernel y = with(6, 1, 4, 10, 5, 6);
        y.release(1);
        due.is("one that was released", y.submit(MUL, 0, 1, NONE), BAD_HANDLE);
    }

    private void resultNotDone() {
        for (int op = MUL; op <= POWMOD; op++) {
            int each = op;
            refuses("as a of op " + op, x -> x.submit(each, 5, 0, 0), BAD_HANDLE);
            refuses("as b of op " + op, x -> x.submit(each, 0, 5, 0), BAD_HANDLE);
        }
        refuses("as m", x -> x.submit(POWMOD, 0, 0, 5), BAD_HANDLE);
        due.is("as m of MUL, which has none", busy().submit(MUL, 0, 0, 5), 4);
        due.is("a result that is done as a", busy().submit(MUL, 4, 0, NONE), 4);
        due.is("as b", busy().submit(DIVQ, 0, 4, NONE), 4);
        due.is("as m", busy().submit(POWMOD, 0, 0, 4), 4);
        LimbKernel y = busy();
        y.run(5000);
        due.is("when it is done", y.submit(MUL, 4, 5, NONE), 4);
        y.run(2);
        due.is("the product", limbsOf(y, y.jobResult(4)), "[35, 45, 0, 0]");
    }

    private void dividedByZero() {
        refuses("b is 0", x -> x.submit(DIVQ, 0, 2, NONE), DIV_ZERO);
        refuses("0 divided by 0", x -> x.submit(DIVQ, 2, 2, NONE), DIV_ZERO);
        due.is("a is 0", busy().submit(DIVQ, 2, 0, NONE), 4);
        due.is("m is 0, which does not matter", busy().submit(DIVQ, 0, 1, 2), 4);
        due.is("MUL by 0", busy().submit(MUL, 0, 2, NONE), 4);
        due.is("GCD with 0", busy().submit(GCD, 0, 2, NONE), 4);
        due.is("to the power of 0", busy().submit(POWMOD, 0, 2, 3), 4);
        LimbKernel y = new LimbKernel(6, 4, 4, 10);
        put(y, 0, 0, 0);
        put(y, 0, 0, 1);
        put(y, 1, 0, 0);
        due.is("a 0 of three limbs", y.submit(DIVQ, 1, 0, NONE), DIV_ZERO);
        due.is("only the last limb is not 0", y.submit(DIVQ, 1, 1, NONE), 0);
        due.is("only the first limb is not 0", y.submit(DIVQ, 1, 2, NONE), 1);
    }

    private void moduloZero() {
        refuses("m is 0", x -> x.submit(POWMOD, 0, 1, 2), DIV_ZERO);
        refuses("all are 0", x -> x.submit(POWMOD, 2, 2, 2), DIV_ZERO);
        due.is("a and b are 0", busy().submit(POWMOD, 2, 2, 3), 4);
        due.is("m = 0 for MUL", busy().submit(MUL, 0, 1, 2), 4);
        due.is("m = 0 for GCD", busy().submit(GCD, 0, 1, 2), 4);
        LimbKernel y = new LimbKernel(6, 4, 4, 10);
        put(y, 0, 0, 0);
        put(y, 0, 0, 1);
        due.is("a 0 of three limbs", y.submit(POWMOD, 1, 1, 0), DIV_ZERO);
        due.is("only the last limb is not 0", y.submit(POWMOD, 1, 1, 1), 0);
    }

    private void noJob() {
        for (int most : new int[] {1, 2, 12}) {
            LimbKernel x = with(6, most, 24, 2000, 3);
            for (int j = 0; j < most; j++) {
                due.is("job " + j + " of " + most, x.submit(MUL, 0, 0, NONE), j);
            }
            due.is("one more", x.submit(MUL, 0, 0, NONE), NO_JOB);
            due.is("pins of the operand", x.number(0, 2), 2 * most);
            x.run(2 * most);
            due.is("when all are DONE", x.submit(MUL, 0, 0, NONE), NO_JOB);
            x.forget(most - 1);
            due.is("when one is forgotten", x.submit(MUL, 0, 0, NONE), most - 1);
            x.cancel(most - 1);
            due.is("when it is CANCELLED", x.submit(MUL, 0, 0, NONE), NO_JOB);
        }
        refuses("submit", PromisesTest::fullOfJobs, x -> x.submit(MUL, 0, 1, NONE), NO_JOB);
    }

    private static LimbKernel fullOfJobs() {
        LimbKernel x = busy();
        x.submit(GCD, 0, 1, NONE);
        return x;
    }

    private void submitInOrder() {
        due.is("a bad op and bad handles", busy().submit(4, 9, 9, 9), BAD_OP);
        due.is("a bad op and b = 0", busy().submit(4, 0, 2, 2), BAD_OP);
        due.is("a bad op and no job", fullOfJobs().submit(-1, 0, 1, 3), BAD_OP);
        due.is("a bad a and b = 0", busy().submit(DIVQ, 9, 2, NONE), BAD_HANDLE);
        due.is("a bad a and m = 0", busy().submit(POWMOD, 9, 0, 2), BAD_HANDLE);
        due.is("a bad b and m = 0", busy().submit(POWMOD, 0, 9, 2), BAD_HANDLE);
        due.is("a result not done and b = 0", busy().submit(DIVQ, 5, 2, NONE), BAD_HANDLE);
        due.is("a bad handle and no job", fullOfJobs().submit(MUL, 0, 9, NONE), BAD_HANDLE);
        due.is("a bad m and no job", fullOfJobs().submit(POWMOD, 0, 0, 9), BAD_HANDLE);
        due.is("b = 0 and no job", fullOfJobs().submit(DIVQ, 0, 2, NONE), DIV_ZERO);
        due.is("m = 0 and no job", fullOfJobs().submit(POWMOD, 0, 1, 2), DIV_ZERO);
        due.is("no job alone", fullOfJobs().submit(POWMOD, 0, 1, 3), NO_JOB);
    }

    // ---- 9, 10: tick and run

    private void tick() {
        LimbKernel x = with(6, 3, 9, 2000, 3);
        x.submit(MUL, 0, 0, NONE);
        due.is("the only one's", x.tick(), 0);
        x.submit(MUL, 0, 0, NONE);
        x.submit(MUL, 0, 0, NONE);
        int[] whose = {0, 1, 2, 1, 2};
        for (int j : whose) {
            due.is("whose turn it is", x.tick(), j);
        }
        due.is("turns in all", x.count(3, 0), 6);
        LimbKernel y = sized(3, 1, 4, 1, 8);
        y.submit(MUL, 0, 0, NONE);
        due.is("of one that waits in vain", y.tick(), 0);
        due.is("which is a turn", y.count(3, 0), 1);
    }

    private void tickOfNobody() {
        refuses("a new object", () -> new LimbKernel(3, 1, 1, 1), x -> x.tick(), NONE);
        LimbKernel y = with(6, 3, 9, 2000, 3);
        y.submit(MUL, 0, 0, NONE);
        y.run(2);
        due.is("when all are DONE", y.tick(), NONE);
        y.submit(MUL, 0, 0, NONE);
        y.cancel(1);
        due.is("when the last one is CANCELLED", y.tick(), NONE);
        due.is("turns in all", y.count(3, 0), 2);
        y.submit(MUL, 0, 0, NONE);
        due.is("when there is one again", y.tick(), 2);
    }

    private static LimbKernel withTwoJobs() {
        LimbKernel x = with(6, 3, 9, 1, 6, 4);
        x.submit(GCD, 0, 1, NONE);
        x.submit(POWMOD, 0, 1, 0);
        return x;
    }

    private void run() {
        for (int n : new int[] {0, 1, 2, 3, 100}) {
            LimbKernel ticked = withTwoJobs();
            for (int turn = 0; turn < n; turn++) {
                ticked.tick();
            }
            LimbKernel ran = withTwoJobs();
            due.is("run(" + n + ")", ran.run(n), n);
            due.is("turns in all", ran.count(3, 0), n);
            due.is("what is seen then", View.of(ran), View.of(ticked));
        }
    }

    private void runToTheEnd() {
        due.is("5000 turns of an empty queue", new LimbKernel(3, 1, 1, 1).run(5000), 0);
        due.is("no turn of an empty queue", new LimbKernel(3, 1, 1, 1).run(0), 0);
        int all = 1 + 124 + 1 + 31 + 1922;
        for (int n : new int[] {all - 1, all, all + 1, 5000}) {
            LimbKernel x = withTwoJobs();
            due.is("run(" + n + ")", x.run(n), Math.min(n, all));
            due.is("jobs in the queue", x.count(2, 0), n < all ? 1 : 0);
            due.is("turns in all", x.count(3, 0), Math.min(n, all));
            due.is("run(5000) then", x.run(5000), all - Math.min(n, all));
        }
        LimbKernel y = sized(3, 1, 4, 1, 8);
        y.submit(MUL, 0, 0, NONE);
        due.is("turns in vain", y.run(4999), 4999);
        due.is("turns in all", y.count(3, 0), 4999);
    }

    private void runOfWrongN() {
        for (int n : new int[] {-1, -2, 5001, 5002, 65536, LEAST, LEAST + 1, GREATEST}) {
            refuses("run(" + n + ")", x -> x.run(n), NONE);
            due.is("with an empty queue", new LimbKernel(3, 1, 1, 1).run(n), NONE);
        }
        LimbKernel y = sized(3, 1, 4, 1, 8);
        y.submit(MUL, 0, 0, NONE);
        due.is("run(0)", y.run(0), 0);
        due.is("turns in all", y.count(3, 0), 0);
        due.is("run(5000)", y.run(5000), 5000);
        due.is("turns in all", y.count(3, 0), 5000);
    }

    // ---- 11, 12, 13: what a job is

    private void jobState() {
        int[] states = {DONE, CANCELLED, RUNNING, WAITING};
        for (int j = 0; j < 4; j++) {
            due.is("of job " + j, busy().jobState(j), states[j]);
        }
        LimbKernel x = sized(3, 1, 4, 1, 8);
        x.submit(MUL, 0, 0, NONE);
        x.tick();
        due.is("after a turn in vain", x.jobState(0), WAITING);
        LimbKernel y = busy();
        y.cancel(2);
        y.cancel(3);
        due.is("of a RUNNING one that was called off", y.jobState(2), CANCELLED);
        due.is("of a WAITING one that was called off", y.jobState(3), CANCELLED);
    }

    private void stateOfNoJob() {
        for (int j : NO_SUCH) {
            due.is("of " + j, busy().jobState(j), NONE);
        }
        due.is("of the next job", busy().jobState(4), NONE);
        due.is("of the job beyond the last", busy().jobState(5), NONE);
        LimbKernel x = busy();
        x.forget(0);
        due.is("of one that is forgotten", x.jobState(0), NONE);
        due.is("of a new object", new LimbKernel(3, 12, 1, 1).jobState(0), NONE);
    }

    private void jobResult() {
        due.is("of a DONE one", busy().jobResult(0), 4);
        due.is("of a RUNNING one", busy().jobResult(2), 5);
        LimbKernel x = busy();
        x.run(5000);
        due.is("when it is DONE", x.jobResult(2), 5);
        due.is("of the last one", x.jobResult(3), 6);
        x.submit(MUL, 4, 4, NONE);
        due.is("when the result is an operand", x.jobResult(0), 4);
        LimbKernel y = with(4, 1, 1, 1, 3);
        y.submit(MUL, 0, 0, NONE);
        y.tick();
        due.is("of one that waits for a handle", y.jobResult(0), NONE);
    }

    private void resultOfNoJob() {
        for (int j : NO_SUCH) {
            due.is("of " + j, busy().jobResult(j), NONE);
        }
        due.is("of the next job", busy().jobResult(4), NONE);
        due.is("of the job beyond the last", busy().jobResult(5), NONE);
        LimbKernel x = busy();
        x.forget(0);
        due.is("of one that is forgotten", x.jobResult(0), NONE);
        due.is("its number is given again", x.submit(MUL, 0, 1, NONE), 0);
        due.is("the new one has no result yet", x.jobResult(0), NONE);
    }

    private void resultOfAnother() {
        LimbKernel x = busy();
        due.is("of a WAITING one", x.jobResult(3), NONE);
        due.is("of one that was CANCELLED when it was RUNNING", x.jobResult(1), NONE);
        x.cancel(3);
        due.is("of one that was CANCELLED when it was WAITING", x.jobResult(3), NONE);
        x.cancel(2);
        due.is("of one more", x.jobResult(2), NONE);
        due.is("its handle is given again", x.newNumber(1), 5);
        due.is("which changes nothing", x.jobResult(2), NONE);
    }

    private void resultReleased() {
        LimbKernel x = busy();
        due.is("release", x.release(4), true);
        due.is("then", x.jobResult(0), NONE);
        due.is("it is DONE", x.jobState(0), DONE);
        due.is("another number has the handle", x.newNumber(1), 4);
        due.is("which is no result", x.jobResult(0), NONE);
        due.is("the other job's result", x.jobResult(2), 5);
        x.release(4);
        due.is("when that is released", x.jobResult(2), 5);
        x.run(1);
        x.run(1);
        due.is("when another job's result has the handle", x.jobResult(3), 4);
        due.is("the one's result was released", x.jobResult(0), NONE);
    }

    private void workLeft() {
        LimbKernel x = busy();
        due.is("of a WAITING one", x.workLeft(3), 31 * 2 * 2);
        due.is("of a RUNNING one", x.workLeft(2), 31 * 2 + 1922);
        x.tick();
        due.is("after a turn", x.workLeft(2), 31 * 2 + 1922 - 50);
        due.is("of the other one", x.workLeft(3), 31 * 2 * 2);
        x.tick();
        due.is("of the other one, RUNNING", x.workLeft(3), 31 * 2 * 2);
        x.run(2);
        due.is("of the other one, after a turn", x.workLeft(3), 31 * 2 * 2 - 50);
        LimbKernel y = with(3, 1, 2, 1, 9);
        y.submit(DIVQ, 0, 0, NONE);
        y.run(62);
        due.is("one turn before the end", y.workLeft(0), 1);
        LimbKernel z = sized(11, 1, 1, 2000, 2048);
        z.submit(POWMOD, 0, 0, 0);
        z.run(5000);
        due.is("the greatest, after turns in vain", z.workLeft(0), 31L * 2048 * 2048 + 1922L * 2048 * 2048 * 2048);
    }

    private void noWorkLeft() {
        LimbKernel x = busy();
        due.is("of a DONE one", x.workLeft(0), 0);
        due.is("of a CANCELLED one", x.workLeft(1), 0);
        x.run(2);
        x.cancel(2);
        due.is("of one that was RUNNING", x.workLeft(2), 0);
        x.cancel(3);
        due.is("of one that was WAITING", x.workLeft(3), 0);
        for (int quantum : new int[] {61, 62, 63, 2000}) {
            LimbKernel y = with(3, 1, 2, quantum, 9);
            y.submit(DIVQ, 0, 0, NONE);
            y.run(5000);
            due.is("of one that is DONE, with a quantum of " + quantum, y.workLeft(0), 0);
        }
    }

    private void workOfNoJob() {
        for (int j : NO_SUCH) {
            due.is("of " + j, busy().workLeft(j), NONE);
        }
        due.is("of the next job", busy().workLeft(4), NONE);
        due.is("of the job beyond the last", busy().workLeft(5), NONE);
        LimbKernel x = busy();
        x.forget(1);
        due.is("of one that is forgotten", x.workLeft(1), NONE);
        due.is("of a new object", new LimbKernel(3, 12, 1, 1).workLeft(0), NONE);
    }

    // ---- 14: cancel

    private void cancel() {
        LimbKernel x = busy();
        due.is("of a WAITING one", x.cancel(3), true);
        due.is("its state", x.jobState(3), CANCELLED);
        due.is("of a RUNNING one", x.cancel(2), true);
        due.is("its state", x.jobState(2), CANCELLED);
        due.is("the jobs are there still", x.count(1, 0), 4);
        LimbKernel y = withTwoJobs();
        y.run(5);
        due.is("of one in the midst of its WORK", y.cancel(0), true);
        due.is("its state", y.jobState(0), CANCELLED);
        due.is("the other one", y.jobState(1), RUNNING);
    }

    private void cancelledLeavesTheQueue() {
        int[][] left = {{1, 2, 3}, {0, 2, 3}, {0, 1, 3}, {0, 1, 2}};
        for (int turns = 0; turns < 4; turns++) {
            for (int place = 0; place < 4; place++) {
                LimbKernel x = with(6, 4, 9, 1, 6);
                for (int j = 0; j < 4; j++) {
                    x.submit(DIVQ, 0, 0, NONE);
                }
                x.run(turns);
                x.cancel((turns + place) % 4);
                due.is("how many are left", x.count(2, 0), 3);
                for (int k = 0; k < 3; k++) {
                    due.is("the others are in their order", x.count(4, k), (turns + left[place][k]) % 4);
                }
                due.is("no fourth", x.count(4, 3), NONE);
                due.is("whose turn it is", x.tick(), (turns + left[place][0]) % 4);
            }
        }
    }

    private void cancelledPinsNoMore() {
        LimbKernel x = busy();
        x.cancel(3);
        due.is("pins of a when a WAITING one is called off", x.number(0, 2), 1);
        due.is("pins of b", x.number(1, 2), 1);
        due.is("pins of another", x.number(3, 2), 1);
        x.cancel(2);
        for (int h : new int[] {0, 1, 3}) {
            due.is("pins when the RUNNING one is called off", x.number(h, 2), 0);
            due.is("release", x.release(h), true);
        }
        LimbKernel y = with(6, 1, 4, 1, 3);
        y.submit(POWMOD, 0, 0, 0);
        y.cancel(0);
        due.is("pins of an operand three times", y.number(0, 2), 0);
    }

    private void cancelledResultGoes() {
        LimbKernel x = busy();
        x.cancel(2);
        due.is("its size", x.sizeOf(5), NONE);
        due.is("handles in use", x.count(0, 0), 5);
        due.is("its handle is given again", x.newNumber(1), 5);
        due.is("it is no result", x.getLimb(5, 0), 0);
        due.is("it is not pinned", x.setLimb(5, 0, 8), true);
        due.is("it may be an operand", x.submit(MUL, 5, 5, NONE), 4);
        LimbKernel y = busy();
        y.cancel(3);
        due.is("a WAITING one has none: handles in use", y.count(0, 0), 6);
        due.is("the other one's result", y.jobResult(2), 5);
        due.is("its size", y.sizeOf(5), 1);
    }

    private void cancelledBlocksAreFree() {
        for (int op = MUL; op <= POWMOD; op++) {
            LimbKernel x = sized(6, 1, 4, 1, 2, 3, 2);
            String free = View.of(x);
            x.submit(op, 0, 1, 2);
            int before = x.freeCells();
            x.cancel(0);
            due.is("of a WAITING one of op " + op, x.freeCells(), before);
            x.forget(0);
            due.is("what is seen", View.of(x), free);
            x.submit(op, 0, 1, 2);
            x.tick();
            x.cancel(0);
            due.is("of a RUNNING one of op " + op, x.freeCells(), before);
            x.forget(0);
            due.is("what is seen", View.of(x), free.replace("turns 0", "turns 1"));
        }
    }

    private void cancelOfOthers() {
        refuses("of a DONE one", x -> asLong(x.cancel(0)), 0);
        refuses("of a CANCELLED one", x -> asLong(x.cancel(1)), 0);
        refuses("of the next job", x -> asLong(x.cancel(4)), 0);
        refuses("of the job beyond the last", x -> asLong(x.cancel(5)), 0);
        for (int j : NO_SUCH) {
            due.is("of " + j, busy().cancel(j), false);
            due.is("of " + j + " when all others are there", full().cancel(j), false);
        }
        LimbKernel y = busy();
        y.cancel(2);
        due.is("once more", y.cancel(2), false);
        y.forget(2);
        due.is("when it is forgotten", y.cancel(2), false);
        due.is("of a new object", new LimbKernel(3, 12, 1, 1).cancel(0), false);
    }

    // ---- 15: forget

    private void forget() {
        LimbKernel x = busy();
        due.is("of a DONE one", x.forget(0), true);
        due.is("its state", x.jobState(0), NONE);
        due.is("jobs", x.count(1, 0), 3);
        due.is("of a CANCELLED one", x.forget(1), true);
        due.is("its state", x.jobState(1), NONE);
        due.is("jobs", x.count(1, 0), 2);
        due.is("jobs in the queue", x.count(2, 0), 2);
        due.is("its number is free", x.submit(MUL, 0, 1, NONE), 0);
        due.is("and the other one's", x.submit(MUL, 0, 1, NONE), 1);
    }

    private void forgottenResultStays() {
        LimbKernel x = busy();
        x.forget(0);
        due.is("its limbs", limbsOf(x, 4), "[35, 45, 0]");
        due.is("handles in use", x.count(0, 0), 6);
        x.submit(GCD, 4, 4, NONE);
        x.run(5000);
        due.is("it may be an operand", limbsOf(x, x.jobResult(0)), "[35, 45, 0]");
        due.is("release", x.release(4), true);
    }

    private void forgetOfOthers() {
        refuses("of a RUNNING one", x -> asLong(x.forget(2)), 0);
        refuses("of a WAITING one", x -> asLong(x.forget(3)), 0);
        refuses("of the next job", x -> asLong(x.forget(4)), 0);
        refuses("of the job beyond the last", x -> asLong(x.forget(5)), 0);
        for (int j : NO_SUCH) {
            due.is("of " + j, busy().forget(j), false);
        }
        LimbKernel y = busy();
        y.forget(0);
        due.is("once more", y.forget(0), false);
        due.is("jobs", y.count(1, 0), 3);
        due.is("of a new object", new LimbKernel(3, 12, 1, 1).forget(0), false);
    }

    // ---- 16, 17: the free blocks

    private void freeCells() {
        LimbKernel x = new LimbKernel(11, 2, 24, 2000);
        due.is("of an empty pool", x.freeCells(), 2048);
        x.newNumber(5);
        due.is("less a block of 8", x.freeCells(), 2040);
        x.newNumber(1024);
        due.is("less a block of 1024", x.freeCells(), 1016);
        x.setLimb(0, 0, 1);
        x.submit(DIVQ, 0, 0, NONE);
        x.tick();
        due.is("less a result of 8 and a ROOM of 16", x.freeCells(), 1016 - 24);
        x.run(5000);
        due.is("less a result", x.freeCells(), 1008);
        x.release(1);
        due.is("more by 1024", x.freeCells(), 2032);
        for (int limbs = 1024; limbs >= 16; limbs /= 2) {
            x.newNumber(limbs);
        }
        due.is("of a full pool", x.freeCells(), 0);
        due.is("with a block of one limb", sized(3, 1, 1, 1, 1).freeCells(), 7);
        due.is("of that limb alone", sized(3, 1, 4, 1, 4, 2, 1).freeCells(), 1);
    }

    /** A pool of 16 limbs of which 1, 4, 11, 14 and the pair at 8 are free. */
    private static LimbKernel riddled() {
        LimbKernel x = new LimbKernel(4, 2, 24, 2000);
        for (int h = 0; h < 16; h++) {
            x.newNumber(1);
        }
        for (int h : new int[] {11, 1, 14, 9, 4, 8}) {
            x.release(h);
        }
        return x;
    }

    private void freeBlocks() {
        LimbKernel x = riddled();
        due.is("of order 0", x.freeBlock(0, NONE), 4);
        due.is("of order 1", x.freeBlock(1, NONE), 1);
        for (int order = 2; order <= 4; order++) {
            due.is("of order " + order, x.freeBlock(order, NONE), 0);
        }
        due.is("of the whole pool", new LimbKernel(4, 1, 1, 1).freeBlock(4, NONE), 1);
        due.is("of a full pool", sized(4, 1, 1, 1, 16).freeBlock(4, NONE), 0);
    }

    private void freeBlockAddress() {
        LimbKernel x = riddled();
        int[] addresses = {1, 4, 11, 14};
        for (int k = 0; k < 4; k++) {
            due.is("the " + k + "-th limb", x.freeBlock(0, k), addresses[k]);
        }
        due.is("the pair", x.freeBlock(1, 0), 8);
        due.is("the whole pool", new LimbKernel(11, 1, 1, 1).freeBlock(11, 0), 0);
        LimbKernel y = sized(11, 1, 2, 1, 1024);
        due.is("the upper half", y.freeBlock(10, 0), 1024);
        y.newNumber(1024);
        y.release(0);
        due.is("the lower half", y.freeBlock(10, 0), 0);
    }

    private void freeBlockOfNoOrder() {
        for (int log : new int[] {3, 4, 11}) {
            LimbKernel x = new LimbKernel(log, 1, 1, 1);
            for (int order : new int[] {-1, -2, log + 1, log + 2, 31, 32, 32 + log, 64, 256 + log, LEAST, LEAST + log, GREATEST}) {
                due.is("how many of order " + order, x.freeBlock(order, NONE), NONE);
                due.is("the first of order " + order, x.freeBlock(order, 0), NONE);
            }
            due.is("how many of order 0", x.freeBlock(0, NONE), 0);
            due.is("how many of order " + log, x.freeBlock(log, NONE), 1);
        }
    }

    private void noFreeBlock() {
        LimbKernel x = riddled();
        for (int k : new int[] {4, 5, -2, -3, 256, 65536, LEAST, LEAST + 1, GREATEST}) {
            due.is("the " + k + "-th of four limbs", x.freeBlock(0, k), NONE);
            due.is("the " + k + "-th of no blocks of four", x.freeBlock(2, k), NONE);
        }
        due.is("the last of four limbs", x.freeBlock(0, 3), 14);
        due.is("the second of one pair", x.freeBlock(1, 1), NONE);
        due.is("the first of no blocks of four", x.freeBlock(2, 0), NONE);
        due.is("of a full pool", sized(4, 1, 1, 1, 16).freeBlock(4, 0), NONE);
    }

    // ---- 18: number

    private void numberAddress() {
        LimbKernel x = sized(6, 2, 8, 2000, 1, 6, 2);
        int[] addresses = {0, 8, 2};
        for (int h = 0; h < 3; h++) {
            due.is("of number " + h, x.number(h, 0), addresses[h]);
        }
        x.submit(MUL, 0, 0, NONE);
        x.tick();
        due.is("of a result that is not done", x.number(3, 0), 4);
    }

    private void numberOrder() {
        LimbKernel x = sized(6, 2, 8, 2000, 1, 6, 2);
        int[] orders = {0, 3, 1};
        for (int h = 0; h < 3; h++) {
            due.is("of number " + h, x.number(h, 1), orders[h]);
        }
        x.submit(MUL, 2, 0, NONE);
        x.tick();
        due.is("of a result that is not done", x.number(3, 1), 2);
        due.is("of the whole pool", sized(11, 1, 1, 1, 1025).number(0, 1), 11);
    }

    private void numberPins() {
        int[] pins = {2, 2, 0, 1, 0, 1};
        for (int h = 0; h < 6; h++) {
            due.is("of number " + h, busy().number(h, 2), pins[h]);
        }
        LimbKernel x = busy();
        x.submit(MUL, 4, 4, NONE);
        due.is("twice the operand of a job", x.number(4, 2), 2);
        x.run(5000);
        for (int h = 0; h < 8; h++) {
            due.is("of number " + h + " when all jobs are done", x.number(h, 2), 0);
        }
    }

    private void numberOfNone() {
        for (int what = 0; what < 3; what++) {
            for (int h : NO_SUCH) {
                due.is("what = " + what + " of " + h, busy().number(h, what), NONE);
            }
            due.is("of the next free handle", busy().number(6, what), NONE);
            due.is("of the handle beyond the last", busy().number(8, what), NONE);
            LimbKernel x = busy();
            x.release(2);
            due.is("of one that was released", x.number(2, what), NONE);
        }
    }

    private void numberOfNoWhat() {
        for (int what : new int[] {-1, -2, 3, 4, 256, 65536, LEAST, LEAST + 1, GREATEST}) {
            for (int h = 0; h < 6; h++) {
                due.is("what = " + what + " of number " + h, busy().number(h, what), NONE);
            }
            due.is("what = " + what + " of no number", busy().number(6, what), NONE);
        }
    }

    // ---- 19: count

    private void countHandles() {
        due.is("of a new object", new LimbKernel(3, 1, 1, 1).count(0, 0), 0);
        LimbKernel x = busy();
        due.is("of four numbers and two results", x.count(0, 0), 6);
        x.release(2);
        due.is("less one that was released", x.count(0, 0), 5);
        x.run(5000);
        due.is("with the last one's result", x.count(0, 0), 6);
        LimbKernel y = new LimbKernel(11, 1, 24, 1);
        for (int h = 1; h <= 24; h++) {
            y.newNumber(1);
            due.is("up to the most", y.count(0, 0), h);
        }
        y.newNumber(1);
        due.is("and no more", y.count(0, 0), 24);
    }

    private void countJobs() {
        due.is("of a new object", new LimbKernel(3, 1, 1, 1).count(1, 0), 0);
        LimbKernel x = busy();
        due.is("one of each state", x.count(1, 0), 4);
        x.cancel(3);
        x.run(5000);
        due.is("DONE and CANCELLED ones alone", x.count(1, 0), 4);
        for (int j = 0; j < 4; j++) {
            x.forget(j);
            due.is("less those that are forgotten", x.count(1, 0), 3 - j);
        }
        LimbKernel y = with(6, 12, 24, 1, 1);
        for (int j = 1; j <= 12; j++) {
            y.submit(MUL, 0, 0, NONE);
            due.is("up to the most", y.count(1, 0), j);
        }
        y.submit(MUL, 0, 0, NONE);
        due.is("and no more", y.count(1, 0), 12);
    }

    private void countQueue() {
        due.is("of a new object", new LimbKernel(3, 1, 1, 1).count(2, 0), 0);
        LimbKernel x = busy();
        due.is("a WAITING and a RUNNING one", x.count(2, 0), 2);
        x.cancel(3);
        due.is("the RUNNING one", x.count(2, 0), 1);
        x.run(5000);
        due.is("none", x.count(2, 0), 0);
        LimbKernel y = with(6, 12, 24, 1, 1);
        for (int j = 1; j <= 12; j++) {
            y.submit(DIVQ, 0, 0, NONE);
            y.tick();
            due.is("up to the most", y.count(2, 0), j);
        }
    }

    private void countTurns() {
        LimbKernel x = sized(3, 2, 4, 1, 4);
        due.is("of a new object", x.count(3, 0), 0);
        x.tick();
        x.run(5);
        due.is("none of an empty queue", x.count(3, 0), 0);
        x.submit(GCD, 0, 0, NONE);
        x.tick();
        due.is("one in vain", x.count(3, 0), 1);
        x.run(10);
        due.is("ten more", x.count(3, 0), 11);
        x.run(0);
        x.run(5001);
        due.is("wrong ones are none", x.count(3, 0), 11);
        x.cancel(0);
        x.forget(0);
        due.is("they stay when the job goes", x.count(3, 0), 11);
        x.init();
        due.is("init is the beginning", x.count(3, 0), 0);
    }

    private void jobInTheQueue() {
        due.is("of a new object", new LimbKernel(3, 1, 1, 1).count(4, 0), NONE);
        LimbKernel x = with(6, 12, 24, 1, 1);
        for (int j = 0; j < 12; j++) {
            x.submit(DIVQ, 0, 0, NONE);
        }
        for (int turn = 0; turn < 13; turn++) {
            for (int k = 0; k < 12; k++) {
                due.is("the " + k + "-th after " + turn + " turns", x.count(4, k), (turn + k) % 12);
            }
            due.is("no 12-th", x.count(4, 12), NONE);
            x.tick();
        }
        LimbKernel y = busy();
        due.is("the first", y.count(4, 0), 2);
        due.is("the last", y.count(4, 1), 3);
        for (int k : new int[] {2, 3, -1, -2, 256, 65536, LEAST, LEAST + 1, GREATEST}) {
            due.is("the " + k + "-th of two", y.count(4, k), NONE);
        }
    }

    private void countOfNoWhat() {
        for (int what : new int[] {-1, -2, 5, 6, 256, 65536, LEAST, LEAST + 1, GREATEST}) {
            for (int k : new int[] {-1, 0, 1}) {
                due.is("what = " + what, busy().count(what, k), NONE);
            }
        }
    }

    private void kIsForFourAlone() {
        int[] counts = {6, 4, 2, 4};
        for (int what = 0; what < 4; what++) {
            for (int k : NO_SUCH) {
                due.is("what = " + what + ", k = " + k, busy().count(what, k), counts[what]);
            }
        }
    }
}
