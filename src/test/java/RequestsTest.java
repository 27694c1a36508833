/** Promises 18, 19, 23, 29, 30, 32 and 33: requests and what becomes of them. */
public final class RequestsTest {
    private static final Class<IndexOutOfBoundsException> NO_INDEX = IndexOutOfBoundsException.class;
    private static final Class<IllegalArgumentException> NO_ARGUMENT = IllegalArgumentException.class;
    private static final Class<IllegalStateException> NO_STATE = IllegalStateException.class;
    private static final Check check = new Check();

    public static void main(String[] args) {
        idling();
        submitting();
        limitOfPending();
        limitOfAll();
        cancelling();
        finishing();
        wrongNumbers();
        check.end();
    }

    private static void idling() {
        DiskArmSimulator x = new DiskArmSimulator();
        for (int wrong : new int[] {0, -1, 1001, Integer.MIN_VALUE, Integer.MAX_VALUE}) {
            check.throwing(18, "idle(" + wrong + ")", NO_ARGUMENT, () -> x.idle(wrong));
        }
        check.due(18, "idle(1)", x.idle(1), 1);
        check.due(18, "idle(999)", x.idle(999), 1000);
        for (int i = 2; i <= 100; i++) {
            check.due(18, "idle(1000)", x.idle(1000), i * 1000);
        }
        check.throwing(18, "idle(1) at 100000", NO_STATE, () -> x.idle(1));
        check.throwing(18, "idle(1001) at 100000", NO_ARGUMENT, () -> x.idle(1001));
        check.due(15, "clock", x.clock(), 100000);
        check.due(18, "idle moves no arm", x.arm(), 0);
        check.due(18, "idle accesses nothing", x.total(3), 0);
        DiskArmSimulator y = new DiskArmSimulator();
        for (int i = 0; i < 99; i++) {
            y.idle(1000);
        }
        y.idle(1);
        check.throwing(18, "idle(1000) at 99001", NO_STATE, () -> y.idle(1000));
        check.due(18, "idle(999) at 99001", y.idle(999), 100000);
    }

    private static void submitting() {
        DiskArmSimulator x = new DiskArmSimulator();
        int[][] wrong = {{-1, 0, 0}, {2, 0, 0}, {0, 0, -1}, {0, 0, 10000}, {2, 572, 0}, {0, -1, 10000},
            {Integer.MIN_VALUE, 0, 0}, {0, 0, Integer.MAX_VALUE}, {0, 0, Integer.MIN_VALUE}};
        for (int[] w : wrong) {
            check.throwing(19, "submit", NO_ARGUMENT, () -> x.submit(w[0], w[1], w[2]));
        }
        for (int block : new int[] {-1, 572, Integer.MIN_VALUE, Integer.MAX_VALUE}) {
            check.throwing(19, "submit of block " + block, NO_INDEX, () -> x.submit(0, block, 0));
        }
        check.due(29, "pendingRequests", x.pendingRequests(), 0);
        check.due(19, "submit", x.submit(0, 0, 0), 0);
        check.due(19, "submit", x.submit(1, 571, 9999), 1);
        check.due(19, "submit of the same block", x.submit(1, 571, 1), 2);
        check.due(29, "pendingRequests", x.pendingRequests(), 3);
        check.due(30, "state", x.state(1), 0);
        check.due(19, "submit takes no time", x.clock(), 0);
    }

    private static void limitOfPending() {
        DiskArmSimulator x = new DiskArmSimulator();
        for (int i = 0; i < 12; i++) {
            check.due(19, "submit", x.submit(0, i, 0), i);
            check.due(29, "pendingRequests", x.pendingRequests(), i + 1);
        }
        check.throwing(19, "a thirteenth", NO_STATE, () -> x.submit(0, 20, 0));
        check.throwing(19, "no block before that", NO_INDEX, () -> x.submit(0, 572, 0));
        check.throwing(19, "no kind before that", NO_ARGUMENT, () -> x.submit(2, 572, 0));
        x.setWriteBack(true);
        check.throwing(19, "one that would be finished at once", NO_STATE, () -> x.submit(1, 20, 0));
        check.due(28, "dirtyBlocks", x.dirtyBlocks(), 0);
        x.cancel(4);
        check.due(19, "a write after one was cancelled", x.submit(1, 20, 0), 12);
        check.due(29, "pendingRequests", x.pendingRequests(), 11);
        check.due(19, "a read after one was cancelled", x.submit(0, 21, 0), 13);
        check.throwing(19, "twelve again", NO_STATE, () -> x.submit(0, 20, 0));
        x.serve();
        check.due(19, "submit after one was served", x.submit(0, 20, 0), 14);
        check.due(30, "a read of a dirty block", x.state(14), 1);
    }

    private static void limitOfAll() {
        DiskArmSimulator x = new DiskArmSimulator();
        for (int i = 0; i < 40; i++) {
            check.due(19, "submit", x.submit(0, i, 0), i);
            x.cancel(i);
        }
        x.setWriteBack(true);
        for (int i = 40; i < 80; i++) {
            check.due(19, "submit", x.submit(1, 5, 0), i);
        }
        check.throwing(19, "a read behind 80", NO_STATE, () -> x.submit(0, 6, 0));
        check.throwing(19, "a held back write behind 80", NO_STATE, () -> x.submit(1, 5, 0));
        check.throwing(19, "no block behind 80", NO_INDEX, () -> x.submit(1, 572, 0));
        check.due(30, "state(79)", x.state(79), 1);
        check.throwing(30, "state(80)", NO_INDEX, () -> x.state(80));
    }

    private static void cancelling() {
        DiskArmSimulator x = new DiskArmSimulator();
        x.submit(0, 0, 0);
        x.submit(0, 1, 0);
        x.cancel(0);
        check.due(30, "state of a cancelled one", x.state(0), 2);
        check.due(29, "pendingRequests", x.pendingRequests(), 1);
        check.throwingVoid(23, "cancel again", NO_STATE, () -> x.cancel(0));
        x.serve();
        check.throwingVoid(23, "cancel of a finished one", NO_STATE, () -> x.cancel(1));
        check.due(29, "pendingRequests", x.pendingRequests(), 0);
        check.due(23, "cancel takes no access", x.total(3), 1);
        check.due(30, "state of a finished one", x.state(1), 1);
    }

    private static void finishing() {
        DiskArmSimulator x = new DiskArmSimulator();
        x.submit(0, 0, 10);
        x.submit(0, 1, 19);
        x.submit(0, 2, 0);
        x.submit(0, 3, 100);
        check.throwing(32, "finish of a pending one", NO_STATE, () -> x.finish(0));
        check.throwing(33, "isLate of a pending one", NO_STATE, () -> x.isLate(0));
        check.throwing(33, "isLate of a pending one without a deadline", NO_STATE, () -> x.isLate(2));
        x.serveFor(30);
        x.cancel(3);
        check.due(32, "finish(0)", x.finish(0), 10);
        check.due(32, "finish(1)", x.finish(1), 20);
        check.due(33, "finished at its deadline", x.isLate(0), false);
        check.due(33, "finished a tick later", x.isLate(1), true);
        check.throwing(33, "isLate without a deadline", UnsupportedOperationException.class, () -> x.isLate(2));
        check.throwing(32, "finish of a cancelled one", NO_STATE, () -> x.finish(3));
        check.throwing(33, "isLate of a cancelled one", NO_STATE, () -> x.isLate(3));
        check.due(19, "a later arrival", x.submit(0, 3, 10), 4);
        x.serve();
        check.due(32, "finish(4)", x.finish(4), 40);
        check.due(33, "the deadline counts from the arrival", x.isLate(4), false);
    }

    private static void wrongNumbers() {
        DiskArmSimulator x = new DiskArmSimulator();
        x.submit(0, 0, 0);
        for (int wrong : new int[] {-1, 1, 80, Integer.MIN_VALUE, Integer.MAX_VALUE}) {
            check.throwingVoid(23, "cancel(" + wrong + ")", NO_INDEX, () -> x.cancel(wrong));
            check.throwing(30, "state(" + wrong + ")", NO_INDEX, () -> x.state(wrong));
            check.throwing(31, "bucket(" + wrong + ")", NO_INDEX, () -> x.bucket(wrong));
            check.throwing(32, "finish(" + wrong + ")", NO_INDEX, () -> x.finish(wrong));
            check.throwing(33, "isLate(" + wrong + ")", NO_INDEX, () -> x.isLate(wrong));
        }
    }
}
