import java.util.Random;

/** Runs of calls drawn at random (always the same ones), each answer compared with PlainKernel's, up to the 512th call. */
public final class RandomRunsTest {
    private static final int RUNS = 8000;
    private static final int CALLS = 300;
    private static final int MOST_CALLS = 512;
    private static final int[] WORDS = {0, 1, 2, 3, 10, 1 << 30, (1 << 30) - 1, (1 << 30) + 1, 0x7fffffff, 0x7ffffffe, -1, Integer.MIN_VALUE};
    private static final int[] ODD = {-2, -1, Integer.MIN_VALUE, Integer.MAX_VALUE, 24, 99, 0};

    private final Due due;
    private final Random random;
    private final int seed;
    private final int poolLog;
    private final int jobs;
    private final int handles;
    private LimbKernel kernel;
    private PlainKernel plain;
    private String call;
    private int calls = 0;

    private RandomRunsTest(Due due, int seed) {
        this.due = due;
        this.seed = seed;
        this.random = new Random(seed);
        this.poolLog = random.nextInt(4) == 0 ? 2 + random.nextInt(11) : 3 + random.nextInt(5);
        this.jobs = random.nextInt(14);
        this.handles = random.nextInt(3) == 0 ? random.nextInt(27) : 5 + random.nextInt(19);
    }

    public static void main(String[] args) {
        Due due = new Due();
        for (int seed = 0; seed < RUNS && !due.anyWrong(); seed++) {
            new RandomRunsTest(due, seed).compare();
        }
        due.end();
    }

    private void compare() {
        int[] quanta = {0, 1, 7, 50, 200, 1000, 2000, 2001, 1 + random.nextInt(2000)};
        int quantum = quanta[random.nextInt(quanta.length)];
        kernel = new LimbKernel(poolLog, jobs, handles, quantum);
        plain = new PlainKernel(poolLog, jobs, handles, quantum);
        for (int i = 0; i < CALLS && !due.anyWrong(); i++) {
            call = "run " + seed + " (" + poolLog + ", " + jobs + ", " + handles + ", " + quantum + "), call " + i + ": ";
            oneCall();
        }
        call = "run " + seed + ", at its end: ";
        compareAll();
    }

    private int below(int bound, int oddOneIn) {
        return random.nextInt(oddOneIn) == 0 ? ODD[random.nextInt(ODD.length)] : random.nextInt(bound);
    }

    private int handle() {
        return below(random.nextBoolean() ? 4 : Math.max(1, Math.min(24, handles)), 30);
    }

    private int job() {
        return below(Math.max(1, Math.min(12, jobs)), 20);
    }

    private int word() {
        return random.nextBoolean() ? random.nextInt() & Integer.MAX_VALUE : WORDS[random.nextInt(WORDS.length)];
    }

    private void is(String what, long got, long want) {
        calls++;
        due.is(call + what, got, want);
    }

    private void is(String what, boolean got, boolean want) {
        calls++;
        due.is(call + what, got, want);
    }

    private boolean mayAskForMore() {
        return calls < MOST_CALLS;
    }

    private void oneCall() {
        int kind = random.nextInt(100);
        if (kind < 7) {
            callNewNumber();
        } else if (kind < 30) {
            int h = handle();
            int i = below(Math.max(1, plain.sizeOf(h)), 25);
            int w = word();
            is("setLimb(" + h + ", " + i + ", " + w + ")", kernel.setLimb(h, i, w), plain.setLimb(h, i, w));
        } else if (kind < 42) {
            callSubmit();
        } else if (kind < 54) {
            is("tick()", kernel.tick(), plain.tick());
        } else if (kind < 66) {
            int n = random.nextInt(15) == 0 ? new int[] {-1, 0, 5000, 5001}[random.nextInt(4)] : random.nextInt(random.nextBoolean() ? 20 : 300);
            is("run(" + n + ")", kernel.run(n), plain.run(n));
        } else if (kind < 75) {
            int h = handle();
            is("release(" + h + ")", kernel.release(h), plain.release(h));
        } else if (kind < 82) {
            int j = job();
            is("forget(" + j + ")", kernel.forget(j), plain.forget(j));
        } else if (kind < 86) {
            int j = job();
            is("cancel(" + j + ")", kernel.cancel(j), plain.cancel(j));
        } else if (kind == 86 && random.nextInt(4) == 0) {
            is("init()", kernel.init(), plain.init());
        } else {
            look();
        }
    }

    private void callNewNumber() {
        int most = random.nextInt(12) == 0 ? 1 << poolLog : 1 << Math.max(1, poolLog - 5);
        int limbs = random.nextInt(20) == 0 ? new int[] {0, -1, 1 << poolLog, (1 << poolLog) + 1, Integer.MAX_VALUE}[random.nextInt(5)] : 1 + random.nextInt(most);
        is("newNumber(" + limbs + ")", kernel.newNumber(limbs), plain.newNumber(limbs));
    }

    private void callSubmit() {
        int op = below(4, 40);
        int a = handle();
        int b = handle();
        int m = handle();
        is("submit(" + op + ", " + a + ", " + b + ", " + m + ")", kernel.submit(op, a, b, m), plain.submit(op, a, b, m));
    }

    private void look() {
        int h = handle();
        int j = job();
        switch (random.nextInt(9)) {
            case 0:
                int i = below(Math.max(1, plain.sizeOf(h)), 10);
                is("getLimb(" + h + ", " + i + ")", kernel.getLimb(h, i), plain.getLimb(h, i));
                break;
            case 1:
                is("sizeOf(" + h + ")", kernel.sizeOf(h), plain.sizeOf(h));
                break;
            case 2:
                is("jobState(" + j + ")", kernel.jobState(j), plain.jobState(j));
                break;
            case 3:
                is("jobResult(" + j + ")", kernel.jobResult(j), plain.jobResult(j));
                break;
            case 4:
                is("workLeft(" + j + ")", kernel.workLeft(j), plain.workLeft(j));
                break;
            case 5:
                is("freeCells()", kernel.freeCells(), plain.freeCells());
                break;
            case 6:
                int order = below(poolLog + 2, 15);
                int place = below(5, 3);
                is("freeBlock(" + order + ", " + place + ")", kernel.freeBlock(order, place), plain.freeBlock(order, place));
                break;
            case 7:
                int what = below(4, 15);
                is("number(" + h + ", " + what + ")", kernel.number(h, what), plain.number(h, what));
                break;
            default:
                int which = below(6, 15);
                int k = below(13, 10);
                is("count(" + which + ", " + k + ")", kernel.count(which, k), plain.count(which, k));
                break;
        }
    }

    /** As much as the calls that are left allow, that which costs few of them first. */
    private void compareAll() {
        is("freeCells()", kernel.freeCells(), plain.freeCells());
        for (int what = 0; what < 4; what++) {
            is("count(" + what + ", 0)", kernel.count(what, 0), plain.count(what, 0));
        }
        for (int j = 0; j < 13; j++) {
            is("jobState(" + j + ")", kernel.jobState(j), plain.jobState(j));
            is("jobResult(" + j + ")", kernel.jobResult(j), plain.jobResult(j));
            is("workLeft(" + j + ")", kernel.workLeft(j), plain.workLeft(j));
            is("count(4, " + j + ")", kernel.count(4, j), plain.count(4, j));
        }
        for (int h = 0; h < 25 && mayAskForMore(); h++) {
            compareNumber(h);
        }
        for (int order = -1; order < 13; order++) {
            compareFreeBlocks(order);
        }
        if (mayAskForMore()) {
            is("init()", kernel.init(), plain.init());
        }
    }

    private void compareNumber(int h) {
        for (int what = 0; what < 3 && mayAskForMore(); what++) {
            is("number(" + h + ", " + what + ")", kernel.number(h, what), plain.number(h, what));
        }
        for (int i = 0; i <= plain.sizeOf(h) && mayAskForMore(); i++) {
            is("getLimb(" + h + ", " + i + ")", kernel.getLimb(h, i), plain.getLimb(h, i));
        }
    }

    private void compareFreeBlocks(int order) {
        for (int k = -1; k <= plain.freeBlock(order, -1) && mayAskForMore(); k++) {
            is("freeBlock(" + order + ", " + k + ")", kernel.freeBlock(order, k), plain.freeBlock(order, k));
        }
    }
}
