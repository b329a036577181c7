/** All that the calls that only look can tell of a kernel. */
final class View {
    private static final int MOST_HANDLES = 24, MOST_JOBS = 12, GREATEST_ORDER = 11;

    private final LimbKernel kernel;
    private final StringBuilder text = new StringBuilder();

    private View(LimbKernel kernel) {
        this.kernel = kernel;
    }

    static String of(LimbKernel kernel) {
        return new View(kernel).all(true);
    }

    /** Without how many turns there were. */
    static String withoutTurns(LimbKernel kernel) {
        return new View(kernel).all(false);
    }

    private String all(boolean turnsToo) {
        for (int h = 0; h < MOST_HANDLES; h++) {
            number(h);
        }
        for (int j = 0; j < MOST_JOBS; j++) {
            job(j);
        }
        queue();
        for (int order = 0; order <= GREATEST_ORDER; order++) {
            freeBlocks(order);
        }
        text.append("handles ").append(kernel.count(0, 0)).append(", jobs ").append(kernel.count(1, 0));
        text.append(", free limbs ").append(kernel.freeCells());
        if (turnsToo) {
            text.append(", turns ").append(kernel.count(3, 0));
        }
        return text.toString();
    }

    private void number(int h) {
        int size = kernel.sizeOf(h);
        if (size < 0) {
            return;
        }
        text.append("number ").append(h).append(" at ").append(kernel.number(h, 0)).append(" of order ").append(kernel.number(h, 1));
        text.append(", pins ").append(kernel.number(h, 2)).append(", limbs");
        for (int i = 0; i < size; i++) {
            text.append(' ').append(kernel.getLimb(h, i));
        }
        text.append("; ");
    }

    private void job(int j) {
        int state = kernel.jobState(j);
        if (state >= 0) {
            text.append("job ").append(j).append(" is ").append(state).append(", result ").append(kernel.jobResult(j));
            text.append(", WORK ").append(kernel.workLeft(j)).append("; ");
        }
    }

    private void queue() {
        int length = kernel.count(2, 0);
        text.append("queue of ").append(length).append(':');
        for (int k = 0; k < length; k++) {
            text.append(' ').append(kernel.count(4, k));
        }
        text.append("; ");
    }

    private void freeBlocks(int order) {
        int blocks = kernel.freeBlock(order, LimbKernel.NONE);
        if (blocks > 0) {
            text.append(blocks).append(" free of order ").append(order).append(':');
            for (int k = 0; k < blocks; k++) {
                text.append(' ').append(kernel.freeBlock(order, k));
            }
            text.append("; ");
        }
    }
}
