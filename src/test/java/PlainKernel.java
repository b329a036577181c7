import java.math.BigInteger;
import java.util.ArrayList;
import java.util.List;
import java.util.TreeMap;
import java.util.TreeSet;

/** The document told a second time, as plainly as the library allows: what the class is compared with. */
final class PlainKernel {
    private static final class Block {
        final int order;
        final int address;

        Block(int order, int address) {
            this.order = order;
            this.address = address;
        }
    }

    private static final class Pool {
        final int log;
        final List<TreeSet<Integer>> free = new ArrayList<>();

        Pool(int log) {
            this.log = log;
            for (int order = 0; order <= log; order++) {
                free.add(new TreeSet<>());
            }
            free.get(log).add(0);
        }

        Pool copy() {
            Pool other = new Pool(log);
            for (int order = 0; order <= log; order++) {
                other.free.set(order, new TreeSet<>(free.get(order)));
            }
            return other;
        }

        Block give(int limbs) {
            int want = 0;
            while (1 << want < limbs) {
                want++;
            }
            int order = want;
            while (order <= log && free.get(order).isEmpty()) {
                order++;
            }
            if (order > log) {
                return null;
            }
            int address = free.get(order).pollFirst();
            while (order > want) {
                order--;
                free.get(order).add(address + (1 << order));
            }
            return new Block(want, address);
        }

        void takeBack(Block block) {
            int order = block.order;
            int address = block.address;
            while (order < log) {
                int size = 1 << order;
                int buddy = address / size % 2 == 0 ? address + size : address - size;
                if (!free.get(order).remove(buddy)) {
                    break;
                }
                address = Math.min(address, buddy);
                order++;
            }
            free.get(order).add(address);
        }
    }

    private static final class Number {
        int size;
        Block block;
        BigInteger value = BigInteger.ZERO;
    }

    private static final class Job {
        int op;
        int state;
        List<Number> operands = new ArrayList<>();
        int resultSize;
        int roomSize;
        BigInteger work;
        Number result;
        Block room;
    }

    private final int poolLog;
    private final int mostJobs;
    private final int mostHandles;
    private final int quantum;
    private Pool pool;
    private TreeMap<Integer, Number> numbers;
    private TreeMap<Integer, Job> jobs;
    private List<Job> queue;
    private int turns;

    PlainKernel(int poolLog, int jobs, int handles, int quantum) {
        this.poolLog = poolLog < 3 ? 3 : poolLog > 11 ? 11 : poolLog;
        this.mostJobs = jobs < 1 ? 1 : jobs > 12 ? 12 : jobs;
        this.mostHandles = handles < 1 ? 1 : handles > 24 ? 24 : handles;
        this.quantum = quantum < 1 ? 1 : quantum > 2000 ? 2000 : quantum;
        begin();
    }

    private void begin() {
        pool = new Pool(poolLog);
        numbers = new TreeMap<>();
        jobs = new TreeMap<>();
        queue = new ArrayList<>();
        turns = 0;
    }

    int init() {
        int before = numbers.size() + jobs.size();
        begin();
        return before;
    }

    private static int leastFree(TreeMap<Integer, ?> map) {
        int i = 0;
        while (map.containsKey(i)) {
            i++;
        }
        return i;
    }

    private static <T> int keyOf(TreeMap<Integer, T> map, T value) {
        for (int key : map.keySet()) {
            if (map.get(key) == value) {
                return key;
            }
        }
        return -1;
    }

    int newNumber(int limbs) {
        if (limbs < 1 || limbs > 1 << poolLog) {
            return -2;
        }
        if (numbers.size() == mostHandles) {
            return -3;
        }
        Block block = pool.give(limbs);
        if (block == null) {
            return -4;
        }
        Number number = new Number();
        number.size = limbs;
        number.block = block;
        int h = leastFree(numbers);
        numbers.put(h, number);
        return h;
    }

    private int pinsOf(Number number) {
        int pins = 0;
        for (Job job : queue) {
            for (Number operand : job.operands) {
                pins += operand == number ? 1 : 0;
            }
            pins += job.result == number ? 1 : 0;
        }
        return pins;
    }

    private boolean isUndone(Number number) {
        for (Job job : queue) {
            if (job.result == number) {
                return true;
            }
        }
        return false;
    }

    boolean setLimb(int h, int i, int w) {
        Number number = numbers.get(h);
        if (number == null || pinsOf(number) > 0 || i < 0 || i >= number.size || w < 0) {
            return false;
        }
        BigInteger old = BigInteger.valueOf(getLimb(h, i));
        number.value = number.value.add(BigInteger.valueOf(w).subtract(old).shiftLeft(31 * i));
        return true;
    }

    int getLimb(int h, int i) {
        Number number = numbers.get(h);
        if (number == null || isUndone(number) || i < 0 || i >= number.size) {
            return -1;
        }
        return number.value.shiftRight(31 * i).intValue() & Integer.MAX_VALUE;
    }

    int sizeOf(int h) {
        return numbers.containsKey(h) ? numbers.get(h).size : -1;
    }

    boolean release(int h) {
        Number number = numbers.get(h);
        if (number == null || pinsOf(number) > 0) {
            return false;
        }
        pool.takeBack(number.block);
        numbers.remove(h);
        return true;
    }

    int submit(int op, int a, int b, int m) {
        if (op < 0 || op > 3) {
            return -5;
        }
        Job job = new Job();
        job.op = op;
        for (int h : op == 3 ? new int[] {a, b, m} : new int[] {a, b}) {
            Number operand = numbers.get(h);
            if (operand == null || isUndone(operand)) {
                return -6;
            }
            job.operands.add(operand);
        }
        if (op == 1 && numbers.get(b).value.signum() == 0 || op == 3 && numbers.get(m).value.signum() == 0) {
            return -7;
        }
        if (jobs.size() == mostJobs) {
            return -8;
        }
        plan(job);
        int j = leastFree(jobs);
        jobs.put(j, job);
        queue.add(job);
        return j;
    }

    private static void plan(Job job) {
        int n = job.operands.get(0).size;
        int m = job.operands.get(1).size;
        int k = job.op == 3 ? job.operands.get(2).size : 0;
        BigInteger bigN = BigInteger.valueOf(n);
        BigInteger bigM = BigInteger.valueOf(m);
        BigInteger bigK = BigInteger.valueOf(k);
        BigInteger thirtyOne = BigInteger.valueOf(31);
        if (job.op == 0) {
            job.resultSize = n + m;
            job.roomSize = 0;
            job.work = bigN.multiply(bigM);
        } else if (job.op == 1) {
            job.resultSize = n;
            job.roomSize = n + m + 1;
            job.work = thirtyOne.multiply(bigN).multiply(BigInteger.valueOf(m + 1));
        } else if (job.op == 2) {
            job.resultSize = n > m ? n : m;
            job.roomSize = 2 * (n + m);
            job.work = thirtyOne.multiply(bigN.add(bigM).pow(2));
        } else {
            job.resultSize = k;
            job.roomSize = 3 * k + 1;
            job.work = thirtyOne.multiply(bigN).multiply(bigK).add(BigInteger.valueOf(1922).multiply(bigM).multiply(bigK.pow(2)));
        }
    }

    int tick() {
        if (queue.isEmpty()) {
            return -1;
        }
        turns++;
        Job job = queue.get(0);
        if (job.state == 0) {
            tryToStart(job);
        } else {
            job.work = job.work.subtract(BigInteger.valueOf(quantum));
            if (job.work.signum() <= 0) {
                job.result.value = reckon(job);
                job.work = BigInteger.ZERO;
                job.state = 2;
                if (job.room != null) {
                    pool.takeBack(job.room);
                }
            }
        }
        queue.remove(0);
        if (job.state < 2) {
            queue.add(job);
        }
        return keyOf(jobs, job);
    }

    private void tryToStart(Job job) {
        Pool trial = pool.copy();
        Block result = trial.give(job.resultSize);
        Block room = job.roomSize == 0 ? null : trial.give(job.roomSize);
        if (numbers.size() == mostHandles || result == null || room == null && job.roomSize > 0) {
            return;
        }
        pool = trial;
        job.result = new Number();
        job.result.size = job.resultSize;
        job.result.block = result;
        job.room = room;
        job.state = 1;
        numbers.put(leastFree(numbers), job.result);
    }

    private static BigInteger reckon(Job job) {
        BigInteger a = job.operands.get(0).value;
        BigInteger b = job.operands.get(1).value;
        switch (job.op) {
            case 0:
                return a.multiply(b);
            case 1:
                return a.divide(b);
            case 2:
                return a.gcd(b);
            default:
                return a.modPow(b, job.operands.get(2).value);
        }
    }

    int run(int n) {
        if (n < 0 || n > 5000) {
            return -1;
        }
        int done = 0;
        while (done < n && tick() >= 0) {
            done++;
        }
        return done;
    }

    int jobState(int j) {
        return jobs.containsKey(j) ? jobs.get(j).state : -1;
    }

    int jobResult(int j) {
        Job job = jobs.get(j);
        if (job == null || job.state != 1 && job.state != 2) {
            return -1;
        }
        return keyOf(numbers, job.result);
    }

    long workLeft(int j) {
        return jobs.containsKey(j) ? jobs.get(j).work.longValueExact() : -1;
    }

    boolean cancel(int j) {
        Job job = jobs.get(j);
        if (job == null || job.state > 1) {
            return false;
        }
        queue.remove(job);
        if (job.state == 1) {
            pool.takeBack(job.result.block);
            numbers.remove(keyOf(numbers, job.result));
            if (job.room != null) {
                pool.takeBack(job.room);
            }
        }
        job.work = BigInteger.ZERO;
        job.state = 3;
        return true;
    }

    boolean forget(int j) {
        if (jobState(j) < 2) {
            return false;
        }
        jobs.remove(j);
        return true;
    }

    int freeCells() {
        int sum = 0;
        for (int order = 0; order <= poolLog; order++) {
            sum += pool.free.get(order).size() * (1 << order);
        }
        return sum;
    }

    int freeBlock(int order, int k) {
        if (order < 0 || order > poolLog) {
            return -1;
        }
        List<Integer> addresses = new ArrayList<>(pool.free.get(order));
        if (k == -1) {
            return addresses.size();
        }
        return k < 0 || k >= addresses.size() ? -1 : addresses.get(k);
    }

    int number(int h, int what) {
        Number number = numbers.get(h);
        if (number == null) {
            return -1;
        }
        return what == 0 ? number.block.address : what == 1 ? number.block.order : what == 2 ? pinsOf(number) : -1;
    }

    int count(int what, int k) {
        switch (what) {
            case 0:
                return numbers.size();
            case 1:
                return jobs.size();
            case 2:
                return queue.size();
            case 3:
                return turns;
            case 4:
                return k < 0 || k >= queue.size() ? -1 : keyOf(jobs, queue.get(k));
            default:
                return -1;
        }
    }
}
