import java.util.Arrays;

/** What it does stands in DOC.md, promise by promise; the words in capitals are that document's. */
public final class LimbKernel {
    public static final int NONE = -1, BAD_SIZE = -2, NO_HANDLE = -3, NO_ROOM = -4, BAD_OP = -5, BAD_HANDLE = -6, DIV_ZERO = -7, NO_JOB = -8;

    private static final int MUL = 0, DIVQ = 1, GCD = 2, POWMOD = 3;
    private static final int WAITING = 0, RUNNING = 1, DONE = 2, CANCELLED = 3;
    private static final int MOST_TURNS = 5000;
    private static final int LIMB_BITS = 31;
    private static final long LIMB_MASK = 0x7fffffffL;

    private final Memory memory;
    private final Reckoner reckoner;
    private final Numeral[] numerals;
    private final Job[] jobs;
    private final Queue queue;
    private final int quantum;
    private int handlesInUse;
    private int jobsInUse;
    private int turns;

    public LimbKernel(int poolLog, int jobs, int handles, int quantum) {
        this.memory = new Memory(within(poolLog, 3, 11));
        this.reckoner = new Reckoner(memory.limbs);
        this.jobs = new Job[within(jobs, 1, 12)];
        for (int j = 0; j < this.jobs.length; j++) {
            this.jobs[j] = new Job();
        }
        this.numerals = new Numeral[within(handles, 1, 24)];
        for (int h = 0; h < numerals.length; h++) {
            numerals[h] = new Numeral();
        }
        this.queue = new Queue(this.jobs.length);
        this.quantum = within(quantum, 1, 2000);
    }

    public int init() {
        int before = jobsInUse + handlesInUse;
        memory.clear();
        queue.clear();
        for (int h = 0; h < numerals.length; h++) {
            numerals[h].inUse = false;
        }
        for (int j = 0; j < jobs.length; j++) {
            jobs[j].clear();
        }
        handlesInUse = 0;
        jobsInUse = 0;
        turns = 0;
        return before;
    }

    public int newNumber(int limbs) {
        if (limbs < 1 || limbs > memory.limbs.length) {
            return BAD_SIZE;
        }
        int h = leastFreeHandle();
        if (h == NONE) {
            return NO_HANDLE;
        }
        int order = Memory.orderFor(limbs);
        int address = memory.give(order);
        if (address == NONE) {
            return NO_ROOM;
        }
        occupy(h, limbs, order, address);
        return h;
    }

    public boolean setLimb(int h, int i, int w) {
        if (!isNumber(h) || numerals[h].pins > 0 || !numerals[h].hasLimb(i) || w < 0) {
            return false;
        }
        memory.limbs[numerals[h].address + i] = w;
        return true;
    }

    public int getLimb(int h, int i) {
        if (!isFinished(h) || !numerals[h].hasLimb(i)) {
            return NONE;
        }
        return memory.limbs[numerals[h].address + i];
    }

    public int sizeOf(int h) {
        return isNumber(h) ? numerals[h].size : NONE;
    }

    public boolean release(int h) {
        if (!isNumber(h) || numerals[h].pins > 0) {
            return false;
        }
        // The handle may soon belong to another number, which is no job's result.
        for (int j = 0; j < jobs.length; j++) {
            if (jobs[j].result == h) {
                jobs[j].result = NONE;
            }
        }
        vacate(h);
        return true;
    }

    public int submit(int op, int a, int b, int m) {
        if (op < MUL || op > POWMOD) {
            return BAD_OP;
        }
        if (!isFinished(a) || !isFinished(b) || (op == POWMOD && !isFinished(m))) {
            return BAD_HANDLE;
        }
        if ((op == DIVQ && isZero(b)) || (op == POWMOD && isZero(m))) {
            return DIV_ZERO;
        }
        int j = leastFreeJob();
        if (j == NONE) {
            return NO_JOB;
        }
        Job job = jobs[j];
        job.op = op;
        job.a = a;
        job.b = b;
        job.m = op == POWMOD ? m : NONE;
        job.plan(numerals[a].size, numerals[b].size, op == POWMOD ? numerals[m].size : 0);
        job.state = WAITING;
        changePins(job, 1);
        queue.append(j);
        jobsInUse++;
        return j;
    }

    public int tick() {
        return takeTurn();
    }

    public int run(int n) {
        if (n < 0 || n > MOST_TURNS) {
            return NONE;
        }
        for (int done = 0; done < n; done++) {
            if (takeTurn() == NONE) {
                return done;
            }
        }
        return n;
    }

    public int jobState(int j) {
        return isJob(j) ? jobs[j].state : NONE;
    }

    public int jobResult(int j) {
        return isJob(j) ? jobs[j].result : NONE;
    }

    public long workLeft(int j) {
        return isJob(j) ? jobs[j].work : NONE;
    }

    public boolean cancel(int j) {
        if (!isJob(j) || !jobs[j].isQueued()) {
            return false;
        }
        Job job = jobs[j];
        queue.drop(j);
        changePins(job, -1);
        giveUpRoom(job);
        if (isNumber(job.result)) {
            vacate(job.result);
        }
        job.result = NONE;
        job.work = 0;
        job.state = CANCELLED;
        return true;
    }

    public boolean forget(int j) {
        if (!isJob(j) || jobs[j].isQueued()) {
            return false;
        }
        jobs[j].clear();
        jobsInUse--;
        return true;
    }

    public int freeCells() {
        return memory.freeLimbs();
    }

    public int freeBlock(int order, int k) {
        if (order < 0 || order > memory.log) {
            return NONE;
        }
        return k == NONE ? memory.freeOf[order] : memory.addressOfFree(order, k);
    }

    public int number(int h, int what) {
        if (!isNumber(h)) {
            return NONE;
        }
        switch (what) {
            case 0:
                return numerals[h].address;
            case 1:
                return numerals[h].order;
            case 2:
                return numerals[h].pins;
            default:
                return NONE;
        }
    }

    public int count(int what, int k) {
        switch (what) {
            case 0:
                return handlesInUse;
            case 1:
                return jobsInUse;
            case 2:
                return queue.length;
            case 3:
                return turns;
            case 4:
                return queue.at(k);
            default:
                return NONE;
        }
    }

    private static int within(int x, int least, int greatest) {
        return Math.max(least, Math.min(greatest, x));
    }

    private boolean isNumber(int h) {
        return h >= 0 && h < numerals.length && numerals[h].inUse;
    }

    private boolean isFinished(int h) {
        return isNumber(h) && !numerals[h].unfinished;
    }

    private boolean isZero(int h) {
        return reckoner.significant(numerals[h].address, numerals[h].size) == 0;
    }

    private boolean isJob(int j) {
        return j >= 0 && j < jobs.length && jobs[j].state != NONE;
    }

    private int leastFreeHandle() {
        if (handlesInUse >= numerals.length) {
            return NONE;
        }
        for (int h = 0; h < numerals.length; h++) {
            if (!numerals[h].inUse) {
                return h;
            }
        }
        return NONE;
    }

    private int leastFreeJob() {
        for (int j = 0; j < jobs.length; j++) {
            if (jobs[j].state == NONE) {
                return j;
            }
        }
        return NONE;
    }

    private void occupy(int h, int size, int order, int address) {
        Numeral numeral = numerals[h];
        numeral.inUse = true;
        numeral.unfinished = false;
        numeral.size = size;
        numeral.order = order;
        numeral.address = address;
        numeral.pins = 0;
        Arrays.fill(memory.limbs, address, address + size, 0);
        handlesInUse++;
    }

    private void vacate(int h) {
        memory.takeBack(numerals[h].address, numerals[h].order);
        numerals[h].inUse = false;
        handlesInUse--;
    }

    private void changePins(Job job, int by) {
        numerals[job.a].pins += by;
        numerals[job.b].pins += by;
        if (job.op == POWMOD) {
            numerals[job.m].pins += by;
        }
    }

    private int takeTurn() {
        int j = queue.takeFirst();
        if (j == NONE) {
            return NONE;
        }
        turns++;
        Job job = jobs[j];
        if (job.state == WAITING) {
            start(job);
        } else {
            job.work -= quantum;
            if (job.work <= 0) {
                // No operand can change while the job runs, so that all the reckoning can be done at its end.
                reckon(job);
                settle(job);
            }
        }
        if (job.isQueued()) {
            queue.append(j);
        }
        return j;
    }

    private void start(Job job) {
        int h = leastFreeHandle();
        if (h == NONE || !memory.canGive(job.resultOrder, job.roomOrder)) {
            return;
        }
        occupy(h, job.resultSize, job.resultOrder, memory.give(job.resultOrder));
        numerals[h].unfinished = true;
        numerals[h].pins = 1;
        job.result = h;
        if (job.roomOrder != NONE) {
            job.room = memory.give(job.roomOrder);
        }
        job.state = RUNNING;
    }

    private void reckon(Job job) {
        Numeral a = numerals[job.a];
        Numeral b = numerals[job.b];
        Numeral result = numerals[job.result];
        switch (job.op) {
            case MUL:
                reckoner.addProduct(result.address, a.address, a.size, b.address, b.size);
                break;
            case DIVQ:
                reckoner.quotient(a, b, result, job.room);
                break;
            case GCD:
                reckoner.greatestDivisor(a, b, result, job.room);
                break;
            default:
                reckoner.powerModulo(a, b, numerals[job.m], result, job.room);
                break;
        }
    }

    private void settle(Job job) {
        changePins(job, -1);
        giveUpRoom(job);
        numerals[job.result].pins--;
        numerals[job.result].unfinished = false;
        job.work = 0;
        job.state = DONE;
    }

    private void giveUpRoom(Job job) {
        if (job.room != NONE) {
            memory.takeBack(job.room, job.roomOrder);
            job.room = NONE;
        }
    }

    private static final class Numeral {
        boolean inUse;
        boolean unfinished;
        int size;
        int address;
        int order;
        int pins;

        boolean hasLimb(int i) {
            return i >= 0 && i < size;
        }
    }

    private static final class Job {
        int state = NONE;
        int op;
        int a;
        int b;
        int m;
        int result = NONE;
        int resultSize;
        int resultOrder;
        int room = NONE;
        int roomOrder = NONE;
        long work;

        void clear() {
            state = NONE;
            result = NONE;
            room = NONE;
        }

        boolean isQueued() {
            return state == WAITING || state == RUNNING;
        }

        /** n, m, k are the sizes of the operands; the products need a long. */
        void plan(long n, long m, long k) {
            switch (op) {
                case MUL:
                    need(n + m, 0, n * m);
                    break;
                case DIVQ:
                    need(n, n + m + 1, 31 * n * (m + 1));
                    break;
                case GCD:
                    need(Math.max(n, m), 2 * (n + m), 31 * (n + m) * (n + m));
                    break;
                default:
                    need(k, 3 * k + 1, 31 * n * k + 1922 * m * k * k);
                    break;
            }
        }

        private void need(long resultLimbs, long roomLimbs, long allWork) {
            resultSize = (int) resultLimbs;
            resultOrder = Memory.orderFor(resultLimbs);
            roomOrder = roomLimbs == 0 ? NONE : Memory.orderFor(roomLimbs);
            work = allWork;
        }
    }

    /** The jobs that are WAITING or RUNNING, in a ring, so that a turn moves none but one. */
    private static final class Queue {
        private final int[] ring;
        private int head;
        int length;

        Queue(int most) {
            ring = new int[most];
        }

        void clear() {
            length = 0;
        }

        int at(int k) {
            return k >= 0 && k < length ? ring[slot(k)] : NONE;
        }

        void append(int j) {
            if (length < ring.length) {
                ring[slot(length)] = j;
                length++;
            }
        }

        int takeFirst() {
            if (length == 0) {
                return NONE;
            }
            int j = ring[head];
            head = slot(1);
            length--;
            return j;
        }

        void drop(int j) {
            int before = length;
            for (int i = 0; i < before; i++) {
                int other = takeFirst();
                if (other != j) {
                    append(other);
                }
            }
        }

        private int slot(int k) {
            int i = head + k;
            return i < ring.length ? i : i - ring.length;
        }
    }

    private static final class Memory {
        private static final int GREATEST_ORDER = 30;

        final int log;
        final int[] limbs;
        /** How many free blocks there are of an order: a job that waits in vain asks nothing else. */
        final int[] freeOf;
        /** The order of the free block that begins at an address; NONE where none begins. */
        private final int[] freeAt;

        Memory(int log) {
            this.log = log;
            limbs = new int[1 << log];
            freeOf = new int[log + 1];
            freeAt = new int[1 << log];
            clear();
        }

        void clear() {
            Arrays.fill(freeAt, NONE);
            Arrays.fill(freeOf, 0);
            addFree(0, log);
        }

        static int orderFor(long size) {
            int order = 0;
            while (order < GREATEST_ORDER && (1L << order) < size) {
                order++;
            }
            return order;
        }

        /** Whether a block of one order and then one of a second order (NONE: no second) can be given. */
        boolean canGive(int first, int second) {
            int halved = leastFreeOrder(first);
            if (halved == NONE || second == NONE) {
                return halved != NONE;
            }
            for (int order = second; order <= log; order++) {
                int left = freeOf[order];
                if (order == halved) {
                    left--;
                } else if (order >= first && order < halved) {
                    left++;
                }
                if (left > 0) {
                    return true;
                }
            }
            return false;
        }

        int give(int order) {
            int from = leastFreeOrder(order);
            int address = from == NONE ? NONE : addressOfFree(from, 0);
            if (address == NONE) {
                return NONE;
            }
            removeFree(address, from);
            for (int half = from - 1; half >= order; half--) {
                addFree(address + (1 << half), half);
            }
            return address;
        }

        void takeBack(int address, int order) {
            int start = address;
            int joined = order;
            while (joined < log && freeAt[start ^ (1 << joined)] == joined) {
                removeFree(start ^ (1 << joined), joined);
                start &= ~(1 << joined);
                joined++;
            }
            addFree(start, joined);
        }

        int freeLimbs() {
            int sum = 0;
            for (int order = 0; order <= log; order++) {
                sum += freeOf[order] << order;
            }
            return sum;
        }

        int addressOfFree(int order, int k) {
            if (k < 0 || k >= freeOf[order]) {
                return NONE;
            }
            int before = 0;
            for (int address = 0; address < freeAt.length; address += 1 << order) {
                if (freeAt[address] == order) {
                    if (before == k) {
                        return address;
                    }
                    before++;
                }
            }
            return NONE;
        }

        private int leastFreeOrder(int least) {
            for (int order = least; order <= log; order++) {
                if (freeOf[order] > 0) {
                    return order;
                }
            }
            return NONE;
        }

        private void addFree(int address, int order) {
            freeAt[address] = order;
            freeOf[order]++;
        }

        private void removeFree(int address, int order) {
            freeAt[address] = NONE;
            freeOf[order]--;
        }
    }

    /** Reckons with numbers that lie in the pool; what it needs beside them lies in the ROOM of the job. */
    private static final class Reckoner {
        private final int[] limbs;
        private int divisor;
        private int divisorSize;
        /** The bits that are free above the divisor, and its two highest limbs when it is moved up by them. */
        private int shift;
        private long divisorTop;
        private long divisorNext;

        Reckoner(int[] limbs) {
            this.limbs = limbs;
        }

        /** How many limbs are left of a number without the zeros at its top. */
        int significant(int at, int size) {
            for (int i = size; i > 0; i--) {
                if (limbs[at + i - 1] != 0) {
                    return i;
                }
            }
            return 0;
        }

        /** The n + m limbs at to must be 0. */
        void addProduct(int to, int a, int n, int b, int m) {
            for (int i = 0; i < n; i++) {
                long factor = limbs[a + i];
                int row = to + i;
                long carry = 0;
                for (int j = 0; j < m; j++) {
                    long sum = limbs[row + j] + factor * limbs[b + j] + carry;
                    limbs[row + j] = (int) (sum & LIMB_MASK);
                    carry = sum >> LIMB_BITS;
                }
                limbs[row + m] = (int) carry;
            }
        }

        void quotient(Numeral a, Numeral b, Numeral result, int room) {
            if (chooseDivisor(b.address, b.size)) {
                load(a, room);
                reduce(room, a.size, result.address);
            }
        }

        void greatestDivisor(Numeral a, Numeral b, Numeral result, int room) {
            int x = room;
            int xSize = a.size;
            int y = room + a.size + 1;
            int ySize = b.size;
            load(a, x);
            load(b, y);
            // Two steps take a bit from each of the two at least, so that this bound is never reached.
            int mostSteps = 2 * LIMB_BITS * (a.size + b.size) + 2;
            for (int step = 0; step < mostSteps && chooseDivisor(y, ySize); step++) {
                reduce(x, xSize, NONE);
                int rest = x;
                int restSize = Math.min(xSize, divisorSize);
                x = y;
                xSize = divisorSize;
                y = rest;
                ySize = restSize;
            }
            System.arraycopy(limbs, x, limbs, result.address, xSize);
        }

        void powerModulo(Numeral a, Numeral b, Numeral modulus, Numeral result, int room) {
            if (!chooseDivisor(modulus.address, modulus.size) || isOne(divisor, divisorSize)) {
                return;
            }
            int base = room;
            int area = room + divisorSize;
            reduceToBase(a, base, area);
            int power = result.address;
            limbs[power] = 1;
            boolean begun = false;
            for (int bit = LIMB_BITS * b.size - 1; bit >= 0; bit--) {
                // Squares of the 1 above the highest bit would be work in vain.
                if (begun) {
                    multiplyModulo(power, power, area);
                }
                if (hasBit(b.address, bit)) {
                    multiplyModulo(power, base, area);
                    begun = true;
                }
            }
        }

        private boolean isOne(int at, int size) {
            return size == 1 && limbs[at] == 1;
        }

        private boolean hasBit(int at, int bit) {
            return (limbs[at + bit / LIMB_BITS] >> (bit % LIMB_BITS) & 1) != 0;
        }

        /** Copies a number, with the 0 above it that a reduction wants. */
        private void load(Numeral numeral, int to) {
            System.arraycopy(limbs, numeral.address, limbs, to, numeral.size);
            limbs[to + numeral.size] = 0;
        }

        /** Limb by limb from the top, since the ROOM has no place for the whole of a. */
        private void reduceToBase(Numeral a, int base, int area) {
            Arrays.fill(limbs, area, area + divisorSize + 1, 0);
            for (int i = a.size - 1; i >= 0; i--) {
                System.arraycopy(limbs, area, limbs, area + 1, divisorSize);
                limbs[area] = limbs[a.address + i];
                subtractTimes(area, guessDigit(area));
            }
            System.arraycopy(limbs, area, limbs, base, divisorSize);
        }

        private void multiplyModulo(int power, int factor, int area) {
            int size = divisorSize;
            Arrays.fill(limbs, area, area + 2 * size + 1, 0);
            addProduct(area, power, size, factor, size);
            reduce(area, 2 * size, NONE);
            System.arraycopy(limbs, area, limbs, power, size);
        }

        /** Whether the number is not 0, and so is the divisor now. */
        private boolean chooseDivisor(int at, int size) {
            divisor = at;
            divisorSize = significant(at, size);
            if (divisorSize == 0) {
                return false;
            }
            int top = limbs[at + divisorSize - 1];
            int next = divisorSize > 1 ? limbs[at + divisorSize - 2] : 0;
            int third = divisorSize > 2 ? limbs[at + divisorSize - 3] : 0;
            shift = 0;
            while (shift < LIMB_BITS - 1 && top >> (LIMB_BITS - 1 - shift) == 0) {
                shift++;
            }
            long moved = ((long) top << LIMB_BITS | next) << shift | third >> (LIMB_BITS - shift);
            divisorTop = moved >> LIMB_BITS;
            divisorNext = moved & LIMB_MASK;
            return true;
        }

        /** The size limbs at u, with a 0 above them, become their rest by the divisor; the digits go to to, if that is not NONE. */
        private void reduce(int u, int size, int to) {
            for (int i = size - divisorSize; i >= 0; i--) {
                int digit = subtractTimes(u + i, guessDigit(u + i));
                if (to != NONE) {
                    limbs[to + i] = digit;
                }
            }
        }

        /**
         * How often the divisor goes into the limbs at u, one more than it has: right or too great by 1. The three highest
         * limbs tell it only if the divisor's highest bit is set: they are moved up for the guess, not the whole numbers.
         */
        private long guessDigit(int u) {
            if (divisorTop == 0) {
                return 0;
            }
            int top = u + divisorSize;
            int second = limbs[top - 1];
            int third = divisorSize > 1 ? limbs[top - 2] : 0;
            int fourth = divisorSize > 2 ? limbs[top - 3] : 0;
            long high = ((long) limbs[top] << LIMB_BITS | second) << shift | third >> (LIMB_BITS - shift);
            long low = ((long) third << shift | fourth >> (LIMB_BITS - shift)) & LIMB_MASK;
            long digit = high / divisorTop;
            long rest = high - digit * divisorTop;
            // Two limbs alone may tell 2 too many; the third limb shows it, or leaves 1 too many at the most.
            return digit > LIMB_MASK || digit * divisorNext > (rest << LIMB_BITS | low) ? digit - 1 : digit;
        }

        /** Takes the divisor away guess times, or once less if that is too often: how often it was. */
        private int subtractTimes(int u, long guess) {
            if (guess == 0) {
                return 0;
            }
            long carry = 0;
            for (int i = 0; i < divisorSize; i++) {
                long left = limbs[u + i] + carry - guess * limbs[divisor + i];
                limbs[u + i] = (int) (left & LIMB_MASK);
                carry = left >> LIMB_BITS;
            }
            long top = limbs[u + divisorSize] + carry;
            // Above a rest there is 0, and so there is above one that was below 0 when the divisor is added again.
            limbs[u + divisorSize] = 0;
            if (top >= 0) {
                return (int) guess;
            }
            carry = 0;
            for (int i = 0; i < divisorSize; i++) {
                long sum = limbs[u + i] + carry + limbs[divisor + i];
                limbs[u + i] = (int) (sum & LIMB_MASK);
                carry = sum >> LIMB_BITS;
            }
            return (int) (guess - 1);
        }
    }
}
