/** Promises 6, 27 and 28, and what write-back means for promise 19. */
public final class WriteBackTest {
    private static final Check check = new Check();

    public static void main(String[] args) {
        switching();
        finishedAtOnce();
        ninthBlock();
        flushOrder();
        flushOfMovedBlocks();
        flushAtTheLastClock();
        check.end();
    }

    private static void switching() {
        DiskArmSimulator x = new DiskArmSimulator();
        check.due(6, "setWriteBack(false)", x.setWriteBack(false), false);
        check.due(6, "setWriteBack(true)", x.setWriteBack(true), false);
        check.due(6, "setWriteBack(true)", x.setWriteBack(true), true);
        x.submit(1, 5, 0);
        check.due(6, "setWriteBack(true) while a block is dirty", x.setWriteBack(true), true);
        check.throwing(6, "setWriteBack(false) while a block is dirty", IllegalStateException.class,
            () -> x.setWriteBack(false));
        check.due(6, "it stays on", x.setWriteBack(true), true);
        x.flush();
        check.due(6, "setWriteBack(false) after a flush", x.setWriteBack(false), true);
        x.submit(1, 5, 0);
        check.due(6, "writes are pending without write-back", x.pendingRequests(), 1);
        check.due(28, "dirtyBlocks", x.dirtyBlocks(), 0);
    }

    private static void finishedAtOnce() {
        DiskArmSimulator x = new DiskArmSimulator();
        x.submit(0, 5, 0);
        x.submit(1, 5, 0);
        x.setWriteBack(true);
        x.idle(7);
        check.due(19, "a read of a clean block", x.state(x.submit(0, 5, 0)), 0);
        check.due(19, "a write", x.state(x.submit(1, 5, 1)), 1);
        check.due(32, "it is finished at its arrival", x.finish(3), 7);
        check.due(33, "and not late", x.isLate(3), false);
        check.due(19, "a read of a dirty block", x.state(x.submit(0, 5, 0)), 1);
        check.due(19, "a second write", x.state(x.submit(1, 5, 0)), 1);
        check.due(28, "dirtyBlocks", x.dirtyBlocks(), 1);
        check.due(29, "earlier requests stay pending", x.pendingRequests(), 3);
        check.due(14, "nothing was accessed", x.accessesOf(5), 0);
        check.due(25, "an earlier read is served", x.serve(), 0);
        check.due(25, "an earlier write is served", x.serve(), 1);
        check.due(28, "its block stays dirty", x.dirtyBlocks(), 1);
        x.flush();
        check.due(19, "a read after the flush", x.state(x.submit(0, 5, 0)), 0);
    }

    private static void ninthBlock() {
        DiskArmSimulator x = new DiskArmSimulator();
        x.setWriteBack(true);
        for (int i = 0; i < 8; i++) {
            x.submit(1, i * 70, 0);
            check.due(28, "dirtyBlocks", x.dirtyBlocks(), i + 1);
        }
        check.throwing(19, "a ninth block", IllegalStateException.class, () -> x.submit(1, 3, 0));
        check.due(19, "a dirty block again", x.submit(1, 490, 0), 8);
        check.due(19, "a read of another block", x.submit(0, 3, 0), 9);
        check.due(29, "pendingRequests", x.pendingRequests(), 1);
        check.due(28, "dirtyBlocks", x.dirtyBlocks(), 8);
        check.due(27, "flush", x.flush(), 820);
        check.due(28, "dirtyBlocks", x.dirtyBlocks(), 0);
        check.due(27, "flush of none", x.flush(), 0);
        check.due(19, "a write after the flush", x.submit(1, 3, 0), 10);
    }

    /** From cylinder 10 the cylinders 10, 26, 3 and 5 are visited in this order. */
    private static void flushOrder() {
        DiskArmSimulator x = new DiskArmSimulator();
        x.submit(0, 120, 0);
        x.serve();
        x.setWriteBack(true);
        for (int block : new int[] {60, 36, 300, 121, 120}) {
            x.submit(1, block, 0);
        }
        int begin = x.clock();
        int seeks = x.total(0);
        int ticks = x.flush();
        check.due(27, "the ticks of the flush", ticks, x.clock() - begin);
        check.due(27, "its seeks", x.total(0) - seeks, x.seekTime(10, 26) + x.seekTime(26, 3) + x.seekTime(3, 5));
        check.due(27, "its last cylinder", x.arm(), 5);
        check.due(27, "its accesses", x.total(3), 6);
        // The request ended at 130. Block 120 begins at 240, 121 right behind it at 250, 300 at 240 + 96 after a seek
        // of 42, 36 at 480 after a seek of 49 from 348, and 60 at 600 after a seek of 16 from 490.
        check.due(27, "the clock after it", x.clock(), 610);
    }

    private static void flushOfMovedBlocks() {
        DiskArmSimulator x = new DiskArmSimulator();
        x.setWriteBack(true);
        x.submit(1, 0, 0);
        x.submit(1, 100, 0);
        x.moveToSpare(0);
        x.flush();
        check.due(27, "a moved block comes at its new place", x.arm(), 63);
        check.due(14, "accessesOf(0)", x.accessesOf(0), 1);
        check.due(28, "dirtyBlocks", x.dirtyBlocks(), 0);
    }

    private static void flushAtTheLastClock() {
        DiskArmSimulator x = new DiskArmSimulator();
        x.setWriteBack(true);
        x.submit(1, 0, 0);
        x.submit(1, 100, 0);
        for (int i = 0; i < 100; i++) {
            x.idle(1000);
        }
        check.due(27, "flush at 100000 is whole", x.flush() > 0, true);
        check.due(27, "total(3)", x.total(3), 2);
        x.submit(1, 0, 0);
        check.throwing(27, "flush behind 100000", IllegalStateException.class, x::flush);
        check.due(28, "dirtyBlocks", x.dirtyBlocks(), 1);
    }
}
