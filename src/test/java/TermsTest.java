/** What it is, and the terms: the memory and the jobs. */
public final class TermsTest extends Sentences {
    public static void main(String[] args) {
        new TermsTest().runAll();
    }

    TermsTest() {
        section("What it is");
        sentence("THE POOL has 2 to the POOLLOG LIMBS (numbers 0 ..", this::limbsOfThePool);
        sentence("An object is used for at most 512 calls after it has been made; what later calls answer is free.", this::manyCalls);
        section("Terms");
        memory();
        numbers();
        operations();
        turns();
        sentence("Numbers that are told: what is not as said is answered by numbers below 0, and changes nothing.", this::refusedCalls);
    }

    private void memory() {
        sentence("2^31 - 1),", this::greatestLimb);
        sentence("addresses from 0 on.", this::addresses);
        sentence("A BLOCK of order k has 2 to the k of them,", this::blockSizes);
        sentence("and begins at a multiple of that;", this::blockAddresses);
        sentence("its BUDDY is the other half of the block of order k + 1 in which it lies.", this::buddies);
        sentence("At first the whole pool is one free block.", this::atFirst);
        sentence("TO GIVE a block of order k: of the free blocks of the least order from k on that has some,", this::leastOrder);
        sentence("the one with the least address;", this::leastAddress);
        sentence("as long as it is greater, it is halved, the upper half being free.", this::halved);
        sentence("It is free again: as long as its buddy is a free block of the same order, both are one.", this::joined);
    }

    private void numbers() {
        sentence("A NUMBER has a HANDLE 0, 1, .. (the least free one),", this::leastFreeHandle);
        sentence("a SIZE n (limbs), and a block of the least order with n limbs;", this::leastOrderForSize);
        sentence("limb i stands for 2 to the 31 i times.", this::limbsStandFor);
        sentence("It is PINNED as long as some job has it as operand,", this::pinnedOperand);
        sentence("or as its result that is not done.", this::pinnedResult);
        sentence("PINS are counted.", this::pinsAreCounted);
    }

    private void operations() {
        sentence("JOBS have numbers 0, 1, .. (the least free one).", this::leastFreeJob);
        sentence("0 MUL: a times b;", this::products);
        sentence("the result has n + m limbs;", this::productSize);
        sentence("WORK n m;", this::productWork);
        sentence("no ROOM.", this::productRoom);
        sentence("1 DIVQ: a / b, rounded down;", this::quotients);
        sentence("n limbs;", this::quotientSize);
        sentence("WORK 31 n (m + 1);", this::quotientWork);
        sentence("ROOM n + m + 1.", this::quotientRoom);
        sentence("2 GCD: the greatest number that divides both", this::greatestDivisors);
        sentence("(of 0 and x it is x;", this::divisorOfZeroAndAnother);
        sentence("of 0 and 0: 0);", this::divisorOfZeros);
        sentence("the greater of n and m;", this::divisorSize);
        sentence("WORK 31 (n + m) (n + m);", this::divisorWork);
        sentence("ROOM 2 (n + m).", this::divisorRoom);
        sentence("3 POWMOD: a to the power of b, modulo m", this::powers);
        sentence("(0 to the power of 0 is 1,", this::zeroToZero);
        sentence("modulo 1 all is 0);", this::moduloOne);
        sentence("k limbs;", this::powerSize);
        sentence("WORK 31 n k + 1922 m k k (here m is the size of b);", this::powerWork);
        sentence("ROOM 3 k + 1.", this::powerRoom);
    }

    private void turns() {
        sentence("A job is WAITING (0), RUNNING (1), DONE (2) or CANCELLED (3).", this::states);
        sentence("THE QUEUE has those that are WAITING or RUNNING;", this::queued);
        sentence("a new one, WAITING, comes to its end.", this::newOneAtTheEnd);
        sentence("A TURN of the first one in the queue:", this::firstInTheQueue);
        sentence("it is WAITING: it gets what it needs, if all of it is there:", this::allIsThere);
        sentence("a handle", this::noHandle);
        sentence("and a block for the result", this::noBlockForTheResult);
        sentence("(its limbs are 0 then),", this::limbsOfTheResult);
        sentence("and then a block for the limbs of its ROOM", this::roomComesThen);
        sentence("(none, if that is 0): it is RUNNING;", this::noRoomNeeded);
        sentence("otherwise nothing is given.", this::nothingIsGiven);
        sentence("It is RUNNING: its WORK is less by the QUANTUM;", this::lessByTheQuantum);
        sentence("when it is 0 or less the job is DONE:", this::zeroOrLess);
        sentence("the result is there,", this::resultIsThere);
        sentence("the block for its ROOM free,", this::roomIsFree);
        sentence("its operands and the result are pinned by it no more;", this::pinnedNoMore);
        sentence("it leaves the queue.", this::leavesTheQueue);
        sentence("Then, if it is in the queue still, it comes to its end.", this::toTheEnd);
        sentence("(What the limbs of a result are that is not done is not said, and cannot be seen.)", this::notSeen);
    }

    // ---- What it is

    private void limbsOfThePool() {
        for (int log = 3; log <= 11; log++) {
            LimbKernel x = new LimbKernel(log, 1, 2, 1);
            due.is("the limbs of a pool of " + log, x.freeCells(), 1 << log);
            due.is("a number of one limb more", x.newNumber((1 << log) + 1), BAD_SIZE);
            due.is("a number of them all", x.newNumber(1 << log), 0);
            due.is("what is left", x.freeCells(), 0);
            due.is("the last limb", x.setLimb(0, (1 << log) - 1, GREATEST), true);
            due.is("the last limb then", x.getLimb(0, (1 << log) - 1), GREATEST);
            due.is("a limb beyond", x.setLimb(0, 1 << log, 1), false);
        }
    }

    /** With the most turns that so many calls can ask for. */
    private void manyCalls() {
        LimbKernel x = new LimbKernel(3, 1, 1, 2000);
        x.newNumber(8);
        x.submit(GCD, 0, 0, NONE);
        for (int call = 3; call < 511; call++) {
            due.is("call " + call, x.run(5000), 5000);
        }
        due.is("call 511", x.count(3, 0), 508 * 5000);
        due.is("call 512", x.workLeft(0), 31 * 16 * 16);
    }

    // ---- The memory

    private void greatestLimb() {
        LimbKernel x = sized(3, 1, 2, 1, 2);
        for (int w : new int[] {0, 1, GREATEST - 1, GREATEST}) {
            due.is("setLimb to " + w, x.setLimb(0, 1, w), true);
            due.is("getLimb", x.getLimb(0, 1), w);
        }
        for (int w : new int[] {-1, LEAST}) {
            due.is("setLimb to " + w, x.setLimb(0, 1, w), false);
            due.is("getLimb", x.getLimb(0, 1), GREATEST);
        }
        reckons(MUL, limbs(GREATEST), limbs(1), GREATEST, 0);
        reckons(MUL, limbs(1 << 30), limbs(2), 0, 1);
    }

    private void addresses() {
        LimbKernel x = new LimbKernel(3, 1, 8, 1);
        due.is("the whole pool's", x.freeBlock(3, 0), 0);
        for (int h = 0; h < 8; h++) {
            x.newNumber(1);
            due.is("the address of number " + h, x.number(h, 0), h);
        }
        due.is("no limb is left", x.newNumber(1), NO_HANDLE);
        LimbKernel y = new LimbKernel(11, 1, 8, 1);
        y.newNumber(1024);
        y.newNumber(1023);
        due.is("the upper half's", y.number(1, 0), 1024);
    }

    private void blockSizes() {
        LimbKernel x = new LimbKernel(11, 1, 2, 1);
        for (int order = 0; order <= 11; order++) {
            int h = x.newNumber(1 << order);
            due.is("the order", x.number(h, 1), order);
            due.is("the free limbs beside a block of order " + order, x.freeCells(), 2048 - (1 << order));
            x.release(h);
        }
    }

    private void blockAddresses() {
        LimbKernel x = new LimbKernel(11, 1, 24, 1);
        for (int order = 0; order <= 9; order++) {
            int h = x.newNumber(1 << order);
            due.is("the address of a block of order " + order + ", modulo its limbs", x.number(h, 0) % (1 << order), 0);
        }
        due.is("after one limb comes a pair", x.number(1, 0), 2);
        due.is("then a block of 4", x.number(2, 0), 4);
        due.is("of 512", x.number(9, 0), 512);
    }

    private void buddies() {
        LimbKernel x = new LimbKernel(3, 1, 8, 1);
        for (int h = 0; h < 8; h++) {
            x.newNumber(1);
        }
        x.release(1);
        x.release(2);
        due.is("limbs 1 and 2 lie in no one block of two: pairs", x.freeBlock(1, NONE), 0);
        due.is("single limbs", x.freeBlock(0, NONE), 2);
        x.release(3);
        due.is("limbs 2 and 3 do: pairs", x.freeBlock(1, NONE), 1);
        due.is("where", x.freeBlock(1, 0), 2);
        x.release(4);
        x.release(5);
        due.is("2 .. 3 and 4 .. 5 lie in no one block of four: pairs", x.freeBlock(1, NONE), 2);
        due.is("blocks of four", x.freeBlock(2, NONE), 0);
        x.release(0);
        due.is("0 .. 1 and 2 .. 3 do: blocks of four", x.freeBlock(2, 0), 0);
        due.is("pairs", x.freeBlock(1, 0), 4);
    }

    private void atFirst() {
        for (int log = 3; log <= 11; log++) {
            LimbKernel x = new LimbKernel(log, 1, 1, 1);
            for (int order = 0; order < log; order++) {
                due.is("free blocks of order " + order + " in a pool of " + log, x.freeBlock(order, NONE), 0);
            }
            due.is("whole pools that are free", x.freeBlock(log, NONE), 1);
            due.is("its address", x.freeBlock(log, 0), 0);
        }
    }

    private void leastOrder() {
        LimbKernel x = new LimbKernel(4, 1, 9, 1);
        x.newNumber(4);
        x.newNumber(2);
        x.newNumber(2);
        x.newNumber(8);
        x.release(0);
        x.release(2);
        due.is("free: four at 0, two at 6", 100 * x.freeBlock(2, 0) + x.freeBlock(1, 0), 6);
        due.is("two limbs: the block of two, though it lies above", x.number(x.newNumber(2), 0), 6);
        due.is("one limb: there is no block of one or two, that of four", x.number(x.newNumber(1), 0), 0);
        due.is("two limbs: not the block of one", x.number(x.newNumber(2), 0), 2);
        due.is("three limbs: no block from four on", x.newNumber(3), NO_ROOM);
        due.is("one limb: the block of one", x.number(x.newNumber(1), 0), 1);
        due.is("one limb more: nothing is left", x.newNumber(1), NO_ROOM);
    }

    private void leastAddress() {
        LimbKernel x = new LimbKernel(4, 1, 16, 1);
        for (int h = 0; h < 16; h++) {
            x.newNumber(1);
        }
        for (int h : new int[] {13, 3, 9, 6}) {
            x.release(h);
        }
        int[] addresses = {3, 6, 9, 13};
        for (int address : addresses) {
            due.is("the next one's address", x.number(x.newNumber(1), 0), address);
        }
    }

    private void halved() {
        LimbKernel x = new LimbKernel(11, 1, 2, 1);
        x.newNumber(1);
        due.is("the lowest limb", x.number(0, 0), 0);
        for (int order = 0; order < 11; order++) {
            due.is("upper halves of order " + order, x.freeBlock(order, NONE), 1);
            due.is("its address", x.freeBlock(order, 0), 1 << order);
        }
        due.is("the whole pool", x.freeBlock(11, NONE), 0);
        LimbKernel y = new LimbKernel(4, 1, 2, 1);
        y.newNumber(8);
        due.is("halved once: half a pool", y.freeBlock(3, 0), 8);
        y.newNumber(8);
        due.is("as great as is asked, not halved: halves", y.freeBlock(3, NONE) + y.freeBlock(2, NONE), 0);
    }

    private void joined() {
        LimbKernel x = new LimbKernel(4, 1, 4, 1);
        x.newNumber(1);
        x.release(0);
        due.is("joined up to the whole pool, and no further", x.freeBlock(4, 0), 0);
        x.newNumber(4);
        x.newNumber(1);
        x.release(0);
        due.is("the buddy is free in part: blocks of order 2", x.freeBlock(2, NONE), 1);
        due.is("of order 3, the upper half alone", x.freeBlock(3, 0), 8);
        due.is("of order 1", x.freeBlock(1, 0), 6);
        due.is("of order 0", x.freeBlock(0, 0), 5);
        x.release(1);
        due.is("its last limb is free: the whole pool", x.freeBlock(4, NONE), 1);
        due.is("the rest", x.freeBlock(3, NONE) + x.freeBlock(2, NONE) + x.freeBlock(1, NONE) + x.freeBlock(0, NONE), 0);
        x.newNumber(8);
        x.newNumber(8);
        x.release(1);
        due.is("the upper one first: one block", x.freeBlock(3, NONE), 1);
        x.release(0);
        due.is("then the lower one", x.freeBlock(4, 0), 0);
        due.is("all limbs at once", x.newNumber(16), 0);
        LimbKernel y = sized(4, 1, 4, 1, 4, 1, 1);
        y.release(1);
        y.release(0);
        due.is("a lesser block begins where the buddy does: blocks of order 0", y.freeBlock(0, 0), 4);
        due.is("of order 2", y.freeBlock(2, 0), 0);
        due.is("of order 3, the upper half alone", y.freeBlock(3, 0), 8);
    }

    // ---- The numbers

    private void leastFreeHandle() {
        LimbKernel x = with(6, 1, 5, 2000, 4, 4, 4, 4);
        x.release(2);
        x.release(0);
        due.is("the least of 0, 2 and 4", x.newNumber(1), 0);
        x.submit(MUL, 0, 1, NONE);
        x.tick();
        due.is("for a result too: the least of 2 and 4", x.jobResult(0), 2);
        due.is("the last one", x.newNumber(1), 4);
    }

    private void leastOrderForSize() {
        int[][] orders = {{1, 0}, {2, 1}, {3, 2}, {4, 2}, {5, 3}, {8, 3}, {9, 4}, {1023, 10}, {1024, 10}, {1025, 11}, {2047, 11}, {2048, 11}};
        for (int[] order : orders) {
            LimbKernel x = new LimbKernel(11, 1, 1, 1);
            x.newNumber(order[0]);
            due.is("the size of " + order[0] + " limbs", x.sizeOf(0), order[0]);
            due.is("the order of the block", x.number(0, 1), order[1]);
        }
    }

    private void limbsStandFor() {
        reckons(MUL, limbs(0, 1), limbs(0, 1), 0, 0, 1, 0);
        reckons(MUL, limbs(1 << 30, 0), limbs(4, 0), 0, 2, 0, 0);
        reckons(DIVQ, limbs(0, 1), limbs(2), 1 << 30, 0);
        reckons(DIVQ, limbs(0, 0, 1), limbs(0, 1), 0, 1, 0);
        reckons(GCD, limbs(0, 9), limbs(0, 0, 6), 0, 3, 0);
        reckonsPower(limbs(2), limbs(0, 1), limbs(11), 3);
    }

    private void pinnedOperand() {
        for (int operand = 0; operand < 3; operand++) {
            LimbKernel x = with(6, 1, 5, 50, 3, 4, 5);
            x.submit(POWMOD, 0, 1, 2);
            due.is("setLimb of operand " + operand + " of a WAITING job", x.setLimb(operand, 0, 9), false);
            x.tick();
            due.is("setLimb, the job being RUNNING", x.setLimb(operand, 0, 9), false);
            due.is("release", x.release(operand), false);
            x.run(5000);
            due.is("setLimb, the job being DONE", x.setLimb(operand, 0, 9), true);
            due.is("release", x.release(operand), true);
        }
        LimbKernel y = with(6, 1, 5, 50, 3, 4, 5);
        y.submit(GCD, 0, 1, 2);
        due.is("m is no operand but of POWMOD: its pins", y.number(2, 2), 0);
        due.is("setLimb", y.setLimb(2, 0, 1), true);
        due.is("release", y.release(2), true);
    }

    private void pinnedResult() {
        LimbKernel x = with(6, 1, 5, 50, 3);
        x.submit(DIVQ, 0, 0, NONE);
        x.tick();
        due.is("pins", x.number(1, 2), 1);
        due.is("release", x.release(1), false);
        due.is("setLimb", x.setLimb(1, 0, 1), false);
        x.tick();
        due.is("pins, RUNNING still", x.number(1, 2), 1);
        x.tick();
        due.is("pins, DONE", x.number(1, 2), 0);
        due.is("setLimb", x.setLimb(1, 0, 8), true);
        due.is("release", x.release(1), true);
    }

    private void pinsAreCounted() {
        LimbKernel x = with(8, 12, 24, 2000, 3);
        for (int j = 0; j < 12; j++) {
            x.submit(POWMOD, 0, 0, 0);
            due.is("pins of an operand three times of " + (j + 1) + " jobs", x.number(0, 2), 3 * (j + 1));
        }
        for (int j = 0; j < 11; j++) {
            x.cancel(j);
            due.is("pins when one job less has it", x.number(0, 2), 3 * (11 - j));
            due.is("it is pinned still", x.release(0), false);
        }
        x.cancel(11);
        due.is("pins in the end", x.number(0, 2), 0);
        due.is("it is pinned no more", x.release(0), true);
    }

    // ---- The operations

    private void leastFreeJob() {
        LimbKernel x = with(6, 4, 8, 2000, 3);
        for (int j = 0; j < 4; j++) {
            due.is("the number of the next job", x.submit(MUL, 0, 0, NONE), j);
        }
        x.cancel(3);
        x.cancel(1);
        x.forget(3);
        x.forget(1);
        due.is("the least of 1 and 3", x.submit(MUL, 0, 0, NONE), 1);
        due.is("the last one", x.submit(MUL, 0, 0, NONE), 3);
    }

    private void products() {
        reckons(MUL, limbs(0), limbs(0), 0, 0);
        reckons(MUL, limbs(0, 0), limbs(5, 6), 0, 0, 0, 0);
        reckons(MUL, limbs(5, 6), limbs(0), 0, 0, 0);
        reckons(MUL, limbs(5, 6), limbs(1), 5, 6, 0);
        reckons(MUL, limbs(3, 4), limbs(5, 6), 15, 38, 24, 0);
        reckons(MUL, limbs(GREATEST), limbs(GREATEST), 1, GREATEST - 1);
        reckons(MUL, limbs(GREATEST, GREATEST), limbs(GREATEST, GREATEST), 1, 0, GREATEST - 1, GREATEST);
        reckons(MUL, limbs(GREATEST, GREATEST, GREATEST), limbs(GREATEST), 1, GREATEST, GREATEST, GREATEST - 1);
    }

    private void productSize() {
        size(MUL, 1, 1, 1, 2);
        size(MUL, 2, 5, 1, 7);
        size(MUL, 5, 2, 1, 7);
    }

    private void productWork() {
        work(MUL, 1, 1, 1, 1);
        work(MUL, 2, 5, 3, 10);
        work(MUL, 1024, 512, 1, 1024 * 512);
    }

    private void productRoom() {
        needs(MUL, 1, 1, 1, 2, 0);
        needs(MUL, 3, 5, 1, 8, 0);
        needs(MUL, 4, 5, 1, 16, 0);
    }

    private void quotients() {
        reckons(DIVQ, limbs(0), limbs(1), 0);
        reckons(DIVQ, limbs(0, 0), limbs(3), 0, 0);
        reckons(DIVQ, limbs(6), limbs(7), 0);
        reckons(DIVQ, limbs(7), limbs(7), 1);
        reckons(DIVQ, limbs(13), limbs(7), 1);
        reckons(DIVQ, limbs(14), limbs(7), 2);
        reckons(DIVQ, limbs(GREATEST), limbs(1), GREATEST);
        reckons(DIVQ, limbs(GREATEST), limbs(0, 1), 0);
        reckons(DIVQ, limbs(5), limbs(2, 0, 0), 2);
        reckons(DIVQ, limbs(0, 1), limbs(GREATEST), 1, 0);
        reckons(DIVQ, limbs(GREATEST, GREATEST), limbs(GREATEST, GREATEST), 1, 0);
        reckons(DIVQ, limbs(GREATEST - 1, GREATEST), limbs(GREATEST, GREATEST), 0, 0);
        reckons(DIVQ, limbs(0, 0, 1 << 30), limbs(GREATEST, 1 << 30), GREATEST - 1, 0, 0);
    }

    private void quotientSize() {
        size(DIVQ, 1, 5, 1, 1);
        size(DIVQ, 5, 1, 1, 5);
        size(DIVQ, 5, 3, 1, 5);
    }

    private void quotientWork() {
        work(DIVQ, 1, 1, 1, 62);
        work(DIVQ, 2, 5, 3, 31 * 2 * 6);
        work(DIVQ, 5, 2, 3, 31 * 5 * 3);
        work(DIVQ, 1024, 512, 1, 31 * 1024 * 513);
    }

    private void quotientRoom() {
        needs(DIVQ, 1, 1, 1, 1, 4);
        needs(DIVQ, 1, 2, 1, 1, 4);
        needs(DIVQ, 2, 2, 1, 2, 8);
        needs(DIVQ, 4, 3, 1, 4, 8);
        needs(DIVQ, 5, 3, 1, 8, 16);
    }

    private void greatestDivisors() {
        reckons(GCD, limbs(12), limbs(18), 6);
        reckons(GCD, limbs(18), limbs(12), 6);
        reckons(GCD, limbs(8), limbs(15), 1);
        reckons(GCD, limbs(1), limbs(GREATEST), 1);
        reckons(GCD, limbs(GREATEST), limbs(GREATEST), GREATEST);
        reckons(GCD, limbs(6), limbs(0, 3), 6, 0);
        reckons(GCD, limbs(10, 14), limbs(15, 21), 5, 7);
        reckons(GCD, limbs(0, 0, 8), limbs(12), 4, 0, 0);
        reckons(GCD, limbs(GREATEST, GREATEST), limbs(GREATEST), GREATEST, 0);
    }

    private void divisorOfZeroAndAnother() {
        reckons(GCD, limbs(0), limbs(5), 5);
        reckons(GCD, limbs(5), limbs(0), 5);
        reckons(GCD, limbs(0, 0), limbs(GREATEST), GREATEST, 0);
        reckons(GCD, limbs(0), limbs(4, GREATEST), 4, GREATEST);
        reckons(GCD, limbs(4, GREATEST), limbs(0), 4, GREATEST);
        reckons(GCD, limbs(GREATEST), limbs(0, 0, 0), GREATEST, 0, 0);
    }

    private void divisorOfZeros() {
        reckons(GCD, limbs(0), limbs(0), 0);
        reckons(GCD, limbs(0, 0), limbs(0, 0, 0), 0, 0, 0);
        reckons(GCD, limbs(0, 0, 0), limbs(0), 0, 0, 0);
    }

    private void divisorSize() {
        size(GCD, 1, 5, 1, 5);
        size(GCD, 5, 1, 1, 5);
        size(GCD, 4, 4, 1, 4);
    }

    private void divisorWork() {
        work(GCD, 1, 1, 1, 124);
        work(GCD, 2, 5, 3, 31 * 49);
        work(GCD, 1024, 512, 1, 31 * 1536 * 1536);
    }

    private void divisorRoom() {
        needs(GCD, 1, 1, 1, 1, 4);
        needs(GCD, 1, 3, 1, 4, 8);
        needs(GCD, 3, 2, 1, 4, 16);
        needs(GCD, 4, 4, 1, 4, 16);
    }

    private void powers() {
        reckonsPower(limbs(3), limbs(4), limbs(100), 81);
        reckonsPower(limbs(3), limbs(5), limbs(100), 43);
        reckonsPower(limbs(5), limbs(1), limbs(7), 5);
        reckonsPower(limbs(7), limbs(3), limbs(7), 0);
        reckonsPower(limbs(6), limbs(2), limbs(7), 1);
        reckonsPower(limbs(0, 0, 1), limbs(1), limbs(5), 4);
        reckonsPower(limbs(0, 1), limbs(1), limbs(0, 2), 0, 1);
        reckonsPower(limbs(0), limbs(9), limbs(5), 0);
        reckonsPower(limbs(GREATEST), limbs(GREATEST), limbs(GREATEST, GREATEST), GREATEST, 0);
        reckonsPower(limbs(2), limbs(GREATEST), limbs(3, 0), 2, 0);
    }

    private void zeroToZero() {
        reckonsPower(limbs(0), limbs(0), limbs(2), 1);
        reckonsPower(limbs(0, 0), limbs(0, 0), limbs(0, 1), 1, 0);
        reckonsPower(limbs(9), limbs(0), limbs(5), 1);
        reckonsPower(limbs(5), limbs(0), limbs(5), 1);
    }

    private void moduloOne() {
        reckonsPower(limbs(0), limbs(0), limbs(1), 0);
        reckonsPower(limbs(7), limbs(0), limbs(1, 0), 0, 0);
        reckonsPower(limbs(7, 8), limbs(9), limbs(1, 0, 0), 0, 0, 0);
        reckonsPower(limbs(1), limbs(1), limbs(1), 0);
    }

    private void powerSize() {
        size(POWMOD, 5, 4, 1, 1);
        size(POWMOD, 1, 2, 5, 5);
    }

    /** The greatest is far above what an int holds. */
    private void powerWork() {
        work(POWMOD, 1, 1, 1, 31 + 1922);
        work(POWMOD, 2, 3, 5, 31 * 2 * 5 + 1922 * 3 * 5 * 5);
        work(POWMOD, 5, 3, 2, 31 * 5 * 2 + 1922 * 3 * 2 * 2);
        work(POWMOD, 512, 256, 1024, 31L * 512 * 1024 + 1922L * 256 * 1024 * 1024);
        LimbKernel x = sized(11, 1, 1, 1, 2048);
        x.submit(POWMOD, 0, 0, 0);
        due.is("the greatest WORK", x.workLeft(0), 31L * 2048 * 2048 + 1922L * 2048 * 2048 * 2048);
    }

    private void powerRoom() {
        needs(POWMOD, 7, 9, 1, 1, 4);
        needs(POWMOD, 7, 9, 2, 2, 8);
        needs(POWMOD, 7, 9, 5, 8, 16);
        needs(POWMOD, 7, 9, 6, 8, 32);
    }

    private static LimbKernel operands(int poolLog, int n, int m, int k) {
        return sized(poolLog, 1, 4, 10, n, m, k);
    }

    private void size(int op, int n, int m, int k, int want) {
        LimbKernel x = operands(8, n, m, k);
        x.submit(op, 0, 1, 2);
        x.tick();
        due.is("the size of the result of op " + op + " of " + n + ", " + m + ", " + k + " limbs", x.sizeOf(3), want);
    }

    private void work(int op, int n, int m, int k, long want) {
        LimbKernel x = operands(11, n, m, k);
        x.submit(op, 0, 1, 2);
        due.is("the WORK of op " + op + " of " + n + ", " + m + ", " + k + " limbs", x.workLeft(0), want);
    }

    /** What a job takes of the pool: the blocks of its result and of its ROOM, in limbs. */
    private void needs(int op, int n, int m, int k, int result, int room) {
        LimbKernel x = operands(9, n, m, k);
        int before = x.freeCells();
        x.submit(op, 0, 1, 2);
        x.tick();
        String what = "op " + op + " of " + n + ", " + m + ", " + k + " limbs";
        due.is(what + ": the result's block", 1 << x.number(3, 1), result);
        due.is(what + ": the ROOM's block", before - x.freeCells() - result, room);
    }

    // ---- The turns

    private void states() {
        LimbKernel x = with(6, 2, 5, 2000, 3);
        x.submit(MUL, 0, 0, NONE);
        due.is("WAITING", x.jobState(0), 0);
        x.tick();
        due.is("RUNNING", x.jobState(0), 1);
        x.tick();
        due.is("DONE", x.jobState(0), 2);
        x.submit(MUL, 0, 0, NONE);
        x.cancel(1);
        due.is("CANCELLED", x.jobState(1), 3);
    }

    private void queued() {
        LimbKernel x = busy();
        due.is("of four jobs there are in it", x.count(2, 0), 2);
        due.is("the RUNNING one", x.count(4, 0), 2);
        due.is("the WAITING one", x.count(4, 1), 3);
        due.is("then", x.count(4, 2), NONE);
    }

    private void newOneAtTheEnd() {
        LimbKernel x = with(8, 12, 24, 1, 3);
        for (int j = 0; j < 12; j++) {
            x.submit(DIVQ, 0, 0, NONE);
            due.is("the last of " + (j + 1), x.count(4, j), j);
            due.is("it is WAITING", x.jobState(j), WAITING);
        }
        x.run(5);
        x.cancel(7);
        x.forget(7);
        due.is("the new one's number", x.submit(DIVQ, 0, 0, NONE), 7);
        due.is("the last one", x.count(4, 11), 7);
        due.is("the last one before", x.count(4, 10), 4);
        due.is("the first one", x.count(4, 0), 5);
    }

    private void firstInTheQueue() {
        LimbKernel x = with(8, 3, 9, 20, 3);
        x.submit(DIVQ, 0, 0, NONE);
        x.submit(DIVQ, 0, 0, NONE);
        x.submit(DIVQ, 0, 0, NONE);
        x.tick();
        due.is("its turn: job 0", x.jobState(0), RUNNING);
        due.is("not its turn: job 1", x.jobState(1), WAITING);
        due.is("not its turn: job 2", x.jobState(2), WAITING);
        x.run(3);
        due.is("its second turn: job 0", x.workLeft(0), 42);
        due.is("no second turn yet: job 1", x.workLeft(1), 62);
        due.is("no second turn yet: job 2", x.workLeft(2), 62);
    }

    /** To the last limb and to the last handle. */
    private void allIsThere() {
        LimbKernel x = sized(4, 1, 3, 10, 3, 1);
        x.newNumber(2);
        x.submit(DIVQ, 0, 0, NONE);
        x.tick();
        due.is("a handle is missing", x.jobState(0), WAITING);
        x.release(2);
        x.tick();
        due.is("a result of 4, and a ROOM of 8 when 11 are free", x.jobState(0), WAITING);
        x.release(1);
        x.tick();
        due.is("12 are free", x.jobState(0), RUNNING);
        due.is("limbs that are left", x.freeCells(), 0);
        due.is("its WORK is not less yet", x.workLeft(0), 31 * 3 * 4);
        LimbKernel y = sized(3, 1, 4, 10, 5);
        y.submit(MUL, 0, 0, NONE);
        due.is("more than the pool has: turns", y.run(100), 100);
        due.is("it waits for ever", y.jobState(0), WAITING);
        LimbKernel z = sized(11, 1, 4, 10, 2048);
        z.submit(MUL, 0, 0, NONE);
        due.is("more than the greatest pool has: turns", z.run(100), 100);
        due.is("it waits for ever", z.jobState(0), WAITING);
    }

    private void noHandle() {
        LimbKernel x = with(6, 2, 2, 10, 9, 2);
        x.submit(MUL, 0, 1, NONE);
        String before = View.withoutTurns(x);
        x.tick();
        due.is("without a handle, though there is room", View.withoutTurns(x), before);
        LimbKernel y = with(6, 2, 3, 10, 9, 2);
        y.submit(MUL, 0, 1, NONE);
        y.tick();
        due.is("with the last handle", y.jobState(0), RUNNING);
        due.is("which it is", y.jobResult(0), 2);
        LimbKernel z = with(6, 2, 4, 10, 9, 2, 7);
        z.release(1);
        z.submit(MUL, 0, 2, NONE);
        z.tick();
        due.is("the least free one", z.jobResult(0), 1);
    }

    private void noBlockForTheResult() {
        LimbKernel x = sized(3, 1, 8, 10, 4, 2, 1);
        x.submit(MUL, 1, 2, NONE);
        x.tick();
        due.is("one limb is free, four are needed", x.jobState(0), WAITING);
        x.release(0);
        x.tick();
        due.is("four are free", x.jobState(0), RUNNING);
        due.is("its block", x.number(x.jobResult(0), 0), 0);
        LimbKernel y = sized(3, 1, 8, 10, 1, 2, 1, 1, 1, 1, 1);
        y.release(4);
        y.release(6);
        y.submit(MUL, 0, 0, NONE);
        y.tick();
        due.is("two limbs are free, but no block of two", y.jobState(0), WAITING);
        y.release(5);
        y.tick();
        due.is("now there is one", y.jobState(0), RUNNING);
        LimbKernel z = sized(6, 1, 8, 10, 6, 3);
        z.submit(MUL, 0, 1, NONE);
        z.tick();
        due.is("a block of 16 for 9 limbs", z.jobState(0), RUNNING);
        due.is("its address", z.number(2, 0), 16);
        due.is("its order", z.number(2, 1), 4);
        LimbKernel w = sized(6, 1, 8, 10, 3, 1);
        w.submit(MUL, 0, 1, NONE);
        w.tick();
        due.is("a block of 8 is halved for 4 limbs", w.jobState(0), RUNNING);
        due.is("its address", w.number(2, 0), 8);
        due.is("its order", w.number(2, 1), 2);
    }

    private void limbsOfTheResult() {
        reckons(DIVQ, limbs(1, 2, 3, 4), limbs(1, 2, 3, 4), 1, 0, 0, 0);
        reckons(DIVQ, limbs(1, 2, 3), limbs(1, 2, 3, 4), 0, 0, 0);
        reckons(GCD, limbs(4, 0, 0, 0), limbs(6), 2, 0, 0, 0);
        reckons(MUL, limbs(0, 0), limbs(0, 0), 0, 0, 0, 0);
        reckonsPower(limbs(5), limbs(1), limbs(1, 0, 0), 0, 0, 0);
        reckonsPower(limbs(5), limbs(0), limbs(9, 9, 9), 1, 0, 0);
    }

    /** The result's block comes first: it may take the place that the ROOM needs. */
    private void roomComesThen() {
        LimbKernel x = sized(4, 1, 4, 10, 3, 4);
        x.submit(DIVQ, 0, 0, NONE);
        x.tick();
        due.is("eight are free, but the result of 4 halves them", x.jobState(0), WAITING);
        LimbKernel y = with(4, 1, 4, 10, 9, 2);
        y.submit(DIVQ, 0, 1, NONE);
        y.tick();
        due.is("the result's block", y.number(2, 0), 2);
        due.is("the ROOM's block of order 2 at 4: free ones", y.freeBlock(2, NONE), 0);
        due.is("the free one of order 3", y.freeBlock(3, 0), 8);
        due.is("the free one of order 0", y.freeBlock(0, 0), 3);
        LimbKernel z = sized(4, 1, 5, 10, 1, 1, 2, 4);
        z.submit(DIVQ, 0, 1, NONE);
        z.tick();
        due.is("both are halves of one block: the result's", z.number(4, 0), 8);
        due.is("the ROOM's at 12: free ones of order 2", z.freeBlock(2, NONE), 0);
        due.is("what is left", 100 * z.freeBlock(1, 0) + z.freeBlock(0, 0), 1009);
    }

    private void noRoomNeeded() {
        LimbKernel x = sized(3, 1, 8, 10, 2, 2);
        x.submit(MUL, 0, 1, NONE);
        x.tick();
        due.is("the result takes all that is there", x.freeCells(), 0);
        due.is("it is RUNNING", x.jobState(0), RUNNING);
        LimbKernel y = sized(3, 1, 8, 10, 2, 2);
        y.submit(GCD, 0, 1, NONE);
        y.tick();
        due.is("with a ROOM it has to wait", y.jobState(0), WAITING);
    }

    private void nothingIsGiven() {
        LimbKernel x = with(3, 2, 4, 10, 9, 2);
        x.newNumber(3);
        x.submit(DIVQ, 0, 1, NONE);
        String before = View.withoutTurns(x);
        x.tick();
        due.is("without a block for its ROOM", View.withoutTurns(x), before);
        LimbKernel y = sized(3, 2, 4, 10, 4, 2, 1);
        y.submit(GCD, 1, 2, NONE);
        before = View.withoutTurns(y);
        y.tick();
        due.is("without a block for its result", View.withoutTurns(y), before);
        LimbKernel z = sized(4, 2, 4, 10, 3, 4);
        z.submit(DIVQ, 0, 0, NONE);
        before = View.withoutTurns(z);
        z.tick();
        due.is("without blocks for both", View.withoutTurns(z), before);
        due.is("what may be given to others", z.newNumber(8), 2);
    }

    private void lessByTheQuantum() {
        LimbKernel x = with(6, 1, 4, 10, 9, 2);
        x.submit(DIVQ, 0, 1, NONE);
        x.tick();
        due.is("WORK when it is RUNNING", x.workLeft(0), 62);
        for (int left = 52; left > 0; left -= 10) {
            x.tick();
            due.is("WORK after a turn more", x.workLeft(0), left);
        }
        LimbKernel y = sized(11, 1, 4, 2000, 1, 512, 64);
        y.submit(POWMOD, 0, 1, 2);
        y.run(2);
        due.is("WORK that no int holds", y.workLeft(0), 31 * 64 + 1922L * 512 * 64 * 64 - 2000);
        y.run(5000);
        due.is("5000 turns later", y.workLeft(0), 31 * 64 + 1922L * 512 * 64 * 64 - 5001 * 2000);
    }

    private void zeroOrLess() {
        int[][] turns = {{62, 1}, {63, 1}, {2000, 1}, {61, 2}, {31, 2}, {30, 3}, {1, 62}};
        for (int[] turn : turns) {
            LimbKernel x = with(6, 1, 4, turn[0], 9, 2);
            x.submit(DIVQ, 0, 1, NONE);
            x.run(turn[1]);
            due.is("one turn before, with a quantum of " + turn[0], x.jobState(0), RUNNING);
            due.is("the last turn", x.tick(), 0);
            due.is("then", x.jobState(0), DONE);
        }
    }

    private void resultIsThere() {
        LimbKernel x = with(6, 4, 9, 2000, 6, 4, 5);
        int[] want = {24, 1, 2, 1};
        for (int op = MUL; op <= POWMOD; op++) {
            x.submit(op, 0, 1, 2);
        }
        x.run(8);
        for (int op = MUL; op <= POWMOD; op++) {
            due.is("the result of op " + op, x.getLimb(x.jobResult(op), 0), want[op]);
        }
        due.is("operands are as before", 100 * x.getLimb(0, 0) + 10 * x.getLimb(1, 0) + x.getLimb(2, 0), 645);
    }

    private void roomIsFree() {
        int[] rooms = {0, 4, 4, 4};
        for (int op = MUL; op <= POWMOD; op++) {
            LimbKernel x = with(6, 1, 4, 2000, 6, 4, 5);
            x.submit(op, 0, 1, 2);
            x.tick();
            int before = x.freeCells();
            x.tick();
            due.is("the limbs that op " + op + " gives back", x.freeCells() - before, rooms[op]);
            x.release(x.jobResult(0));
            for (int h = 0; h < 3; h++) {
                x.release(h);
            }
            due.is("the whole pool is one again", x.freeBlock(6, 0), 0);
        }
    }

    private void pinnedNoMore() {
        LimbKernel x = with(6, 2, 5, 2000, 6, 4, 5);
        x.submit(POWMOD, 0, 1, 2);
        x.submit(GCD, 0, 2, NONE);
        x.run(3);
        int[] pins = {1, 0, 1, 0};
        for (int h = 0; h < 4; h++) {
            due.is("pins of number " + h + ", the other job being there", x.number(h, 2), pins[h]);
        }
        x.run(1);
        for (int h = 0; h < 5; h++) {
            due.is("pins of number " + h, x.number(h, 2), 0);
        }
    }

    private void leavesTheQueue() {
        LimbKernel x = with(6, 2, 5, 2000, 6, 4);
        x.submit(MUL, 0, 1, NONE);
        x.submit(MUL, 0, 1, NONE);
        x.run(3);
        due.is("jobs in the queue", x.count(2, 0), 1);
        due.is("the other one", x.count(4, 0), 1);
        x.tick();
        due.is("jobs in the queue", x.count(2, 0), 0);
        due.is("no turn more", x.tick(), NONE);
    }

    private void toTheEnd() {
        LimbKernel x = with(8, 4, 12, 100, 5, 3);
        x.submit(DIVQ, 0, 1, NONE);
        x.submit(MUL, 0, 1, NONE);
        x.submit(GCD, 0, 1, NONE);
        int[] whose = {0, 1, 2, 0, 1, 2, 2, NONE};
        for (int i = 0; i < whose.length; i++) {
            due.is("whose turn " + i + " is", x.tick(), whose[i]);
        }
        LimbKernel y = sized(3, 3, 8, 1, 4, 1);
        y.submit(GCD, 0, 0, NONE);
        y.submit(MUL, 1, 1, NONE);
        int[] others = {0, 1, 0, 1, 0, 0};
        for (int i = 0; i < others.length; i++) {
            due.is("whose turn " + i + " is, job 0 waiting in vain", y.tick(), others[i]);
        }
    }

    private void notSeen() {
        LimbKernel x = with(6, 2, 5, 10, 6, 4);
        x.submit(DIVQ, 0, 1, NONE);
        for (int turn = 0; turn < 7; turn++) {
            x.tick();
            due.is("getLimb after turn " + turn, x.getLimb(2, 0), NONE);
            due.is("as an operand", x.submit(MUL, 2, 2, NONE), BAD_HANDLE);
        }
        x.tick();
        due.is("getLimb in the end", x.getLimb(2, 0), 1);
        due.is("as an operand", x.submit(MUL, 2, 2, NONE), 1);
    }

    // ---- What is not as said

    private void refusedCalls() {
        refuses("newNumber(0)", x -> x.newNumber(0), BAD_SIZE);
        refuses("newNumber(65)", x -> x.newNumber(65), BAD_SIZE);
        refuses("newNumber(64)", x -> x.newNumber(64), NO_ROOM);
        refuses("setLimb of a pinned one", x -> asLong(x.setLimb(0, 0, 1)), 0);
        refuses("setLimb of no limb", x -> asLong(x.setLimb(2, 1, 1)), 0);
        refuses("setLimb to -1", x -> asLong(x.setLimb(2, 0, -1)), 0);
        refuses("release of a pinned one", x -> asLong(x.release(0)), 0);
        refuses("release of a result that is not done", x -> asLong(x.release(5)), 0);
        refuses("submit of op 4", x -> x.submit(4, 0, 1, 2), BAD_OP);
        refuses("submit of op -1", x -> x.submit(-1, 0, 1, 2), BAD_OP);
        refuses("submit with a result that is not done", x -> x.submit(MUL, 5, 0, NONE), BAD_HANDLE);
        refuses("submit divided by 0", x -> x.submit(DIVQ, 0, 2, NONE), DIV_ZERO);
        refuses("submit modulo 0", x -> x.submit(POWMOD, 0, 1, 2), DIV_ZERO);
        refuses("run(-1)", x -> x.run(-1), NONE);
        refuses("run(5001)", x -> x.run(5001), NONE);
        refuses("cancel of one that is DONE", x -> asLong(x.cancel(0)), 0);
        refuses("cancel of one that is CANCELLED", x -> asLong(x.cancel(1)), 0);
        refuses("forget of one that is RUNNING", x -> asLong(x.forget(2)), 0);
        refuses("forget of one that is WAITING", x -> asLong(x.forget(3)), 0);
        for (int no : NO_SUCH) {
            refusedOf(no);
        }
    }

    private void refusedOf(int no) {
        refuses("setLimb of number " + no, x -> asLong(x.setLimb(no, 0, 1)), 0);
        refuses("getLimb of number " + no, x -> x.getLimb(no, 0), NONE);
        refuses("sizeOf number " + no, x -> x.sizeOf(no), NONE);
        refuses("release of number " + no, x -> asLong(x.release(no)), 0);
        refuses("submit with number " + no, x -> x.submit(MUL, 0, no, NONE), BAD_HANDLE);
        refuses("jobState of job " + no, x -> x.jobState(no), NONE);
        refuses("jobResult of job " + no, x -> x.jobResult(no), NONE);
        refuses("workLeft of job " + no, x -> x.workLeft(no), NONE);
        refuses("cancel of job " + no, x -> asLong(x.cancel(no)), 0);
        refuses("forget of job " + no, x -> asLong(x.forget(no)), 0);
        refuses("freeBlock of order " + no, x -> x.freeBlock(no, 0), NONE);
        refuses("number of number " + no, x -> x.number(no, 0), NONE);
        refuses("number of what " + no, x -> x.number(0, no), NONE);
        refuses("count of what " + no, x -> x.count(no, 0), NONE);
        refuses("count of the queue's " + no, x -> x.count(4, no), NONE);
    }
}
