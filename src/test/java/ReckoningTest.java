import java.math.BigInteger;
import java.util.Random;

/**
 * The four operations on numbers of many sizes, with limbs at which carries and guessed digits go wrong, against BigInteger. No
 * object is asked more than the 512 calls that the document speaks of, which bounds the sizes.
 */
public final class ReckoningTest {
    private static final int MUL = 0, DIVQ = 1, GCD = 2, POWMOD = 3;
    private static final int[] EDGES = {0, 0, 1, 2, 1 << 30, (1 << 30) - 1, (1 << 30) + 1, 0x7fffffff, 0x7fffffff, 0x7ffffffe};

    private final Due due = new Due();
    private final Random random = new Random(31);

    public static void main(String[] args) {
        ReckoningTest test = new ReckoningTest();
        test.smallNumbers();
        test.edges();
        test.guessesTooGreat();
        test.remaindersOfMultiples();
        test.steepDivisors();
        test.greatNumbers();
        test.nothingIsWrittenElsewhere();
        test.due.end();
    }

    private static BigInteger big(int... limbs) {
        BigInteger sum = BigInteger.ZERO;
        for (int i = 0; i < limbs.length; i++) {
            sum = sum.add(BigInteger.valueOf(limbs[i]).shiftLeft(31 * i));
        }
        return sum;
    }

    private static int sizeFor(BigInteger value) {
        return Math.max(1, (value.bitLength() + 30) / 31);
    }

    private static String text(BigInteger value) {
        return value.bitLength() > 400 ? "a number of " + value.bitLength() + " bits" : value.toString(16);
    }

    private static int put(LimbKernel kernel, BigInteger value, int size) {
        int h = kernel.newNumber(size);
        for (int i = 0; i < size; i++) {
            kernel.setLimb(h, i, value.shiftRight(31 * i).intValue() & Integer.MAX_VALUE);
        }
        return h;
    }

    private static BigInteger reckon(int op, BigInteger a, BigInteger b, BigInteger m) {
        switch (op) {
            case MUL:
                return a.multiply(b);
            case DIVQ:
                return a.divide(b);
            case GCD:
                return a.gcd(b);
            default:
                return a.modPow(b, m);
        }
    }

    /** No result may depend on what its block or its ROOM held before. */
    private static LimbKernel fullOfRubbish() {
        LimbKernel kernel = new LimbKernel(7, 1, 4, 2000);
        int h = kernel.newNumber(128);
        for (int i = 0; i < 128; i++) {
            kernel.setLimb(h, i, 0x7fffffff - i % 3);
        }
        kernel.release(h);
        return kernel;
    }

    private void check(int op, BigInteger a, BigInteger b, BigInteger m, int above) {
        check(fullOfRubbish(), op, a, b, m, above);
    }

    private void checkGreat(int op, BigInteger a, BigInteger b, BigInteger m) {
        check(new LimbKernel(11, 1, 4, 2000), op, a, b, m, 0);
    }

    /** Each operand may have limbs 0 above it. */
    private void check(LimbKernel kernel, int op, BigInteger a, BigInteger b, BigInteger m, int above) {
        int n = sizeFor(a) + above;
        int k = sizeFor(b) + above;
        int l = sizeFor(m) + above;
        int ha = put(kernel, a, n);
        int hb = put(kernel, b, k);
        int hm = op == POWMOD ? put(kernel, m, l) : LimbKernel.NONE;
        String what = "op " + op + " of " + text(a) + ", " + text(b) + (op == POWMOD ? ", " + text(m) : "") + ", " + above + " limbs more";
        boolean byZero = op == DIVQ && b.signum() == 0 || op == POWMOD && m.signum() == 0;
        due.is(what + ": submit", kernel.submit(op, ha, hb, hm), byZero ? LimbKernel.DIV_ZERO : 0);
        if (byZero) {
            return;
        }
        for (int i = 0; i < 100 && kernel.run(5000) == 5000; i++) {
            continue;
        }
        due.is(what + ": state", kernel.jobState(0), 2);
        int size = op == MUL ? n + k : op == DIVQ ? n : op == GCD ? Math.max(n, k) : l;
        int h = kernel.jobResult(0);
        due.is(what + ": size", kernel.sizeOf(h), size);
        BigInteger want = reckon(op, a, b, m);
        for (int i = 0; i < size; i++) {
            due.is(what + ": limb " + i, kernel.getLimb(h, i), want.shiftRight(31 * i).intValue() & Integer.MAX_VALUE);
        }
    }

    private void checkAll(BigInteger a, BigInteger b, BigInteger m, int above) {
        for (int op = MUL; op <= POWMOD; op++) {
            check(op, a, b, m, above);
        }
    }

    private BigInteger edgeNumber(int size) {
        int[] limbs = new int[size];
        for (int i = 0; i < size; i++) {
            limbs[i] = random.nextInt(4) == 0 ? random.nextInt() & Integer.MAX_VALUE : EDGES[random.nextInt(EDGES.length)];
        }
        return big(limbs);
    }

    private void smallNumbers() {
        for (int a = 0; a < 5; a++) {
            for (int b = 0; b < 5; b++) {
                for (int m = 0; m < 5; m++) {
                    checkAll(big(a), big(b), big(m), m % 3);
                }
            }
        }
    }

    private void edges() {
        for (int i = 0; i < 3000; i++) {
            checkAll(edgeNumber(1 + random.nextInt(7)), edgeNumber(1 + random.nextInt(4)), edgeNumber(1 + random.nextInt(4)), random.nextInt(3));
        }
    }

    /** Divisors with which the digit that the highest limbs tell is too great, by 1 and by 2, before and after the third limb is asked. */
    private void guessesTooGreat() {
        int top = 0x7fffffff;
        int half = 1 << 30;
        check(DIVQ, big(0, 0, half), big(top, half), BigInteger.ONE, 0);
        check(DIVQ, big(0, 0, half, half - 1), big(top, 0, half), BigInteger.ONE, 0);
        check(DIVQ, big(3, 0, half), big(1, 0, half >> 2), BigInteger.ONE, 0);
        check(DIVQ, big(0, 0, 0, half, half - 1), big(1, 0, half), BigInteger.ONE, 0);
        check(DIVQ, big(0, top - 1, half), big(top, half), BigInteger.ONE, 0);
        check(DIVQ, big(0, top - 1, top, half), big(top, top, half), BigInteger.ONE, 0);
        check(DIVQ, big(top, top, top, top), big(top, top), BigInteger.ONE, 0);
        check(DIVQ, big(0, 0, 0, 1), big(top, top), BigInteger.ONE, 0);
    }

    /** Multiples of the divisor, one less and one more: each digit is at its very edge. */
    private void remaindersOfMultiples() {
        for (int i = 0; i < 3000; i++) {
            BigInteger b = edgeNumber(1 + random.nextInt(5)).max(BigInteger.ONE);
            BigInteger multiple = b.multiply(edgeNumber(1 + random.nextInt(4))).max(BigInteger.ONE);
            check(DIVQ, multiple, b, BigInteger.ONE, i % 2);
            check(DIVQ, multiple.subtract(BigInteger.ONE), b, BigInteger.ONE, i % 2);
            check(DIVQ, multiple.add(b).subtract(BigInteger.ONE), b, BigInteger.ONE, 0);
            check(POWMOD, multiple.subtract(BigInteger.ONE), big(1 + i % 3), b, i % 2);
        }
    }

    /** Divisors of every bit length, so that every shift of the highest limbs comes up. */
    private void steepDivisors() {
        for (int bits = 1; bits <= 124; bits++) {
            BigInteger b = BigInteger.ONE.shiftLeft(bits).subtract(BigInteger.ONE);
            BigInteger c = BigInteger.ONE.shiftLeft(bits - 1);
            BigInteger a = new BigInteger(217, random);
            checkAll(a, b, b, 0);
            checkAll(a, c, c, 1);
            check(GCD, a.multiply(b), a.multiply(c), BigInteger.ONE, 0);
        }
    }

    private void greatNumbers() {
        BigInteger a = new BigInteger(31 * 150, random);
        BigInteger b = new BigInteger(31 * 100, random);
        checkGreat(MUL, a, b, BigInteger.ONE);
        checkGreat(DIVQ, a, b, BigInteger.ONE);
        checkGreat(DIVQ, a, b.shiftRight(31 * 60), BigInteger.ONE);
        checkGreat(DIVQ, a, b.shiftRight(31 * 95), BigInteger.ONE);
        checkGreat(DIVQ, b, a, BigInteger.ONE);
        BigInteger common = new BigInteger(31 * 50, random);
        BigInteger x = new BigInteger(31 * 100, random).multiply(common);
        BigInteger y = new BigInteger(31 * 90, random).multiply(common);
        checkGreat(GCD, x, y, BigInteger.ONE);
        checkGreat(GCD, y, common, BigInteger.ONE);
        checkGreat(POWMOD, x, big(0x7fffffff, 5, 77), common);
        BigInteger before = BigInteger.ZERO;
        BigInteger now = BigInteger.ONE;
        for (int i = 0; i < 5000; i++) {
            BigInteger next = before.add(now);
            before = now;
            now = next;
        }
        // Numbers of Fibonacci take the most steps.
        checkGreat(GCD, now, before, BigInteger.ONE);
    }

    private void nothingIsWrittenElsewhere() {
        for (int op = MUL; op <= POWMOD; op++) {
            for (int n = 1; n < 7; n++) {
                for (int m = 1; m < 7; m++) {
                    for (int k = 1; k < 7; k++) {
                        nothingIsWrittenElsewhere(op, n, m, k);
                    }
                }
            }
        }
    }

    /** Every limb that is free while the job runs is part of some number, which must stay as it is. */
    private void nothingIsWrittenElsewhere(int op, int n, int m, int k) {
        LimbKernel kernel = new LimbKernel(7, 1, 24, 2000);
        int[] sizes = {n, m, k};
        for (int h = 0; h < 3; h++) {
            put(kernel, BigInteger.ONE.shiftLeft(31 * sizes[h]).subtract(BigInteger.valueOf(3 + h)), sizes[h]);
        }
        kernel.submit(op, 0, 1, 2);
        kernel.tick();
        for (int order = 0; order <= 7; order++) {
            for (int left = kernel.freeBlock(order, -1); left > 0; left--) {
                put(kernel, BigInteger.ONE.shiftLeft(31 << order).subtract(BigInteger.ONE), 1 << order);
            }
        }
        String what = "op " + op + " of " + n + ", " + m + ", " + k + " limbs";
        due.is(what + ": limbs that are free", kernel.freeCells(), 0);
        for (int i = 0; i < 100 && kernel.run(5000) == 5000; i++) {
            continue;
        }
        due.is(what + ": state", kernel.jobState(0), 2);
        for (int h = 4; kernel.sizeOf(h) > 0; h++) {
            for (int i = 0; i < kernel.sizeOf(h); i++) {
                due.is(what + ": limb " + i + " of another number", kernel.getLimb(h, i), 0x7fffffff);
            }
        }
        for (int h = 0; h < 3; h++) {
            for (int i = 0; i < sizes[h]; i++) {
                due.is(what + ": limb " + i + " of an operand", kernel.getLimb(h, i), i == 0 ? 0x7fffffff - 2 - h : 0x7fffffff);
            }
        }
    }
}
