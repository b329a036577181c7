import java.util.Arrays;
import java.util.LinkedHashMap;
import java.util.Map;
import java.util.function.Supplier;
import java.util.function.ToLongFunction;

/**
 * The sentences of a part of the document, word for word, each with the test that fails if that sentence does not hold.
 * DocumentTest sees to it that no sentence is left out. No object is asked more than the 512 calls that the document speaks of.
 */
abstract class Sentences {
    static final int NONE = -1, BAD_SIZE = -2, NO_HANDLE = -3, NO_ROOM = -4, BAD_OP = -5, BAD_HANDLE = -6, DIV_ZERO = -7, NO_JOB = -8;
    static final int MUL = 0, DIVQ = 1, GCD = 2, POWMOD = 3;
    static final int WAITING = 0, RUNNING = 1, DONE = 2, CANCELLED = 3;
    static final int LEAST = Integer.MIN_VALUE, GREATEST = Integer.MAX_VALUE;
    /** No index of anything, whatever the kernel holds; among them such as would become right ones if they were cut to fewer bits. */
    static final int[] NO_SUCH = {-1, -2, 24, 25, 32, 64, 256, 65536, 1 << 30, -256, LEAST, LEAST + 1, GREATEST, GREATEST - 1};

    final Due due = new Due();
    private final Map<String, Map<String, Runnable>> sections = new LinkedHashMap<>();
    private String section;

    final void section(String title) {
        section = title;
        sections.put(title, new LinkedHashMap<>());
    }

    final void sentence(String words, Runnable test) {
        if (sections.get(section).put(words, test) != null) {
            throw new IllegalArgumentException(section + " has two tests of " + words);
        }
    }

    final Map<String, Map<String, Runnable>> sections() {
        return sections;
    }

    final void runAll() {
        sections.forEach((title, tests) -> tests.forEach((words, test) -> {
            due.about(title + " \"" + words + "\"");
            runOne(test);
        }));
        due.about("");
        due.end();
    }

    /** A call that throws is wrong wherever it stands, and must not hide what the other sentences' tests find. */
    private void runOne(Runnable test) {
        int before = due.asked();
        try {
            test.run();
        } catch (RuntimeException thrown) {
            due.is("a call threw", thrown.toString(), "nothing thrown");
        }
        due.is("the test asked something", due.asked() > before, true);
    }

    /** A kernel with numbers 0, 1, .. of one limb each. */
    static LimbKernel with(int poolLog, int jobs, int handles, int quantum, int... values) {
        LimbKernel x = new LimbKernel(poolLog, jobs, handles, quantum);
        for (int value : values) {
            x.setLimb(x.newNumber(1), 0, value);
        }
        return x;
    }

    /** A kernel with numbers 0, 1, .. of so many limbs each, all of them 1. */
    static LimbKernel sized(int poolLog, int jobs, int handles, int quantum, int... sizes) {
        LimbKernel x = new LimbKernel(poolLog, jobs, handles, quantum);
        for (int size : sizes) {
            x.setLimb(x.newNumber(size), 0, 1);
        }
        return x;
    }

    /**
     * Numbers 0 .. 3 (7 and 9 in two limbs, 5, 0, 11), job 0 DONE with the result 4, job 1 CANCELLED, job 2 RUNNING with the result 5,
     * job 3 WAITING; numbers 0, 1 and 3 are pinned, one more job and two more handles may be.
     */
    static LimbKernel busy() {
        LimbKernel x = new LimbKernel(6, 5, 8, 50);
        x.newNumber(2);
        x.setLimb(0, 0, 7);
        x.setLimb(0, 1, 9);
        for (int value : new int[] {5, 0, 11}) {
            x.setLimb(x.newNumber(1), 0, value);
        }
        x.submit(MUL, 0, 1, NONE);
        x.run(2);
        x.submit(GCD, 0, 1, NONE);
        x.tick();
        x.cancel(1);
        x.submit(POWMOD, 0, 1, 3);
        x.tick();
        x.submit(DIVQ, 0, 1, NONE);
        return x;
    }

    /** As many numbers and jobs as may be in any kernel, all jobs WAITING with number 23 as their operand. */
    static LimbKernel full() {
        LimbKernel x = new LimbKernel(6, 12, 24, 50);
        for (int h = 0; h < 24; h++) {
            x.newNumber(1);
        }
        for (int j = 0; j < 12; j++) {
            x.submit(MUL, 23, 23, NONE);
        }
        return x;
    }

    /** The answer is due, and afterwards the kernel is as one that was not called so, at once and when its jobs have gone on. */
    final void refuses(String what, Supplier<LimbKernel> made, ToLongFunction<LimbKernel> call, long answer) {
        LimbKernel called = made.get();
        due.is(what, call.applyAsLong(called), answer);
        changedNothing(what, called, made.get());
    }

    final void refuses(String what, ToLongFunction<LimbKernel> call, long answer) {
        refuses(what, Sentences::busy, call, answer);
    }

    private void changedNothing(String what, LimbKernel called, LimbKernel other) {
        due.is(what + ": what is seen then", View.of(called), View.of(other));
        called.run(5000);
        other.run(5000);
        due.is(what + ": what is seen when the jobs have gone on", View.of(called), View.of(other));
    }

    static long asLong(boolean answer) {
        return answer ? 1 : 0;
    }

    static int[] limbs(int... limbs) {
        return limbs;
    }

    static int put(LimbKernel x, int... limbs) {
        int h = x.newNumber(limbs.length);
        for (int i = 0; i < limbs.length; i++) {
            x.setLimb(h, i, limbs[i]);
        }
        return h;
    }

    static String limbsOf(LimbKernel x, int h) {
        int[] limbs = new int[Math.max(0, x.sizeOf(h))];
        for (int i = 0; i < limbs.length; i++) {
            limbs[i] = x.getLimb(h, i);
        }
        return Arrays.toString(limbs);
    }

    /** The limbs of the result of one job, in a pool that was full of other limbs before. */
    static String reckoned(int op, int[] a, int[] b, int[] m) {
        LimbKernel x = new LimbKernel(6, 1, 4, 2000);
        int rubbish = x.newNumber(64);
        for (int i = 0; i < 64; i++) {
            x.setLimb(rubbish, i, GREATEST);
        }
        x.release(rubbish);
        x.submit(op, put(x, a), put(x, b), put(x, m));
        x.run(5000);
        return limbsOf(x, x.jobResult(0));
    }

    final void reckons(int op, int[] a, int[] b, int... want) {
        String what = Arrays.toString(a) + " and " + Arrays.toString(b);
        due.is("op " + op + " of " + what, reckoned(op, a, b, limbs(1)), Arrays.toString(want));
    }

    final void reckonsPower(int[] a, int[] b, int[] m, int... want) {
        String what = Arrays.toString(a) + " to the power of " + Arrays.toString(b) + ", modulo " + Arrays.toString(m);
        due.is(what, reckoned(POWMOD, a, b, m), Arrays.toString(want));
    }

    static int jobsThatMayBe(LimbKernel x) {
        int h = x.newNumber(1);
        int most = 0;
        while (most < 100 && x.submit(MUL, h, h, NONE) >= 0) {
            most++;
        }
        return most;
    }

    static int handlesThatMayBe(LimbKernel x) {
        int most = 0;
        while (most < 100 && x.newNumber(1) >= 0) {
            most++;
        }
        return most;
    }

    /** What the first turn of a job that RUNS takes from its WORK. */
    static long quantumOf(LimbKernel x) {
        int h = x.newNumber(9);
        int j = x.submit(GCD, h, h, NONE);
        x.run(2);
        return 31 * 18 * 18 - x.workLeft(j);
    }
}
