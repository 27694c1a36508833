import java.util.function.Consumer;

/** The boundary cases of the cache and its flushes (promises 6, 27 and 28). */
public final class WriteBackBoundsTest {
    private static final Class<IllegalStateException> NO_STATE = IllegalStateException.class;
    private static final Check check = new Check();

    public static void main(String[] args) {
        offAtFirst();
        offWhileDirty();
        finishedAtOnce();
        cleanOrDirty();
        numberOfDirtyBlocks();
        flushOfNone();
        flushFromTheArm();
        flushOfEqualCylinders();
        flushAtTheEnds();
        flushOfMovedBlocks();
        flushCleans();
        flushAtTheLastClock();
        check.end();
    }

    private static DiskArmSimulator after(Consumer<DiskArmSimulator> past) {
        DiskArmSimulator x = new DiskArmSimulator();
        past.accept(x);
        return x;
    }

    private static void offAtFirst() {
        check.about("Write-back is on or off, and off at first.");
        DiskArmSimulator x = new DiskArmSimulator();
        check.due(6, "setWriteBack(false)", x.setWriteBack(false), false);
        x.submit(1, 5, 0);
        check.due(6, "a write while it is off", x.state(0), 0);
        check.due(28, "dirtyBlocks()", x.dirtyBlocks(), 0);
        check.due(6, "setWriteBack(true)", x.setWriteBack(true), false);
        check.due(6, "setWriteBack(true) again", x.setWriteBack(true), true);
        check.due(6, "a pending write stays pending", x.state(0), 0);
        check.due(6, "setWriteBack(false)", x.setWriteBack(false), true);
        check.due(6, "setWriteBack(false) again", x.setWriteBack(false), false);
    }

    private static void offWhileDirty() {
        check.about("IllegalStateException if it is to be switched off while a block is dirty");
        for (int count : new int[] {1, 8}) {
            check.refused(6, "setWriteBack(false) with " + count + " dirty", NO_STATE, x -> Pasts.dirty(x, count),
                x -> x.setWriteBack(false));
        }
        check.refused(6, "setWriteBack(false)", NO_STATE, Pasts::rich, x -> x.setWriteBack(false));
        DiskArmSimulator x = after(y -> Pasts.dirty(y, 1));
        check.due(6, "setWriteBack(true) with one dirty", x.setWriteBack(true), true);
        check.throwing(6, "setWriteBack(false) with one dirty", NO_STATE, () -> x.setWriteBack(false));
        check.due(6, "it is on behind that", x.setWriteBack(true), true);
        check.due(28, "dirtyBlocks() behind that", x.dirtyBlocks(), 1);
        check.due(6, "writes are finished at once behind that", x.state(x.submit(1, 7, 0)), 1);
        x.flush();
        check.due(6, "setWriteBack(false) with none dirty", x.setWriteBack(false), true);
    }

    private static void finishedAtOnce() {
        check.about("If write-back is on, a request for writing makes its block dirty and is finished at once, and a "
            + "request for reading a dirty block is finished at once.");
        DiskArmSimulator x = new DiskArmSimulator();
        x.setWriteBack(true);
        x.idle(9);
        check.due(19, "a write", x.state(x.submit(1, 571, 1)), 1);
        check.due(32, "finish(0)", x.finish(0), 9);
        check.due(19, "a read of it", x.state(x.submit(0, 571, 1)), 1);
        check.due(32, "finish(1)", x.finish(1), 9);
        check.due(33, "isLate(1)", x.isLate(1), false);
        check.due(19, "a read of the block before it", x.state(x.submit(0, 570, 1)), 0);
        check.due(15, "clock()", x.clock(), 9);
        check.due(16, "arm()", x.arm(), 0);
        check.due(37, "total(3)", x.total(3), 0);
        check.about("Requests that are finished at once are never pending.");
        check.due(29, "pendingRequests()", x.pendingRequests(), 1);
        check.due(24, "next()", x.next(), 2);
    }

    private static void cleanOrDirty() {
        check.about("and a request for reading a dirty block is finished at once");
        DiskArmSimulator x = new DiskArmSimulator();
        x.setWriteBack(true);
        x.submit(0, 5, 0);
        x.submit(1, 5, 0);
        check.due(30, "a read before the write stays pending", x.state(0), 0);
        x.serve();
        check.due(28, "serving it cleans no block", x.dirtyBlocks(), 1);
        x.moveToSpare(5);
        check.due(28, "moving it cleans no block", x.dirtyBlocks(), 1);
        check.due(30, "a read of the moved block", x.state(x.submit(0, 5, 0)), 1);
        x.flush();
        check.due(30, "a read behind the flush", x.state(x.submit(0, 5, 0)), 0);
    }

    private static void numberOfDirtyBlocks() {
        check.about("There is a cache of at most 8 dirty blocks.");
        for (int count = 0; count <= 8; count++) {
            int dirty = count;
            check.due(28, "dirtyBlocks()", after(y -> Pasts.dirty(y, dirty)).dirtyBlocks(), count);
        }
        writtenTwice();
        DiskArmSimulator x = after(y -> Pasts.dirty(y, 8));
        check.throwing(19, "a ninth one", NO_STATE, () -> x.submit(1, 1, 0));
        check.due(28, "dirtyBlocks() behind it", x.dirtyBlocks(), 8);
        check.due(37, "nothing was flushed for it", x.total(3), 0);
        x.flush();
        check.due(37, "a flush of eight", x.total(3), 8);
        check.due(14, "the refused one is not among them", x.accessesOf(1), 0);
        check.due(14, "the eighth one is", x.accessesOf(21), 1);
        for (int block = 0; block < 8; block++) {
            x.submit(1, 100 + block, 0);
        }
        check.due(28, "eight others behind the flush", x.dirtyBlocks(), 8);
    }

    private static void writtenTwice() {
        for (int count : new int[] {1, 7, 8}) {
            DiskArmSimulator x = after(y -> Pasts.dirty(y, count));
            x.submit(1, 0, 0);
            x.submit(1, 3 * (count - 1), 0);
            check.due(28, "dirtyBlocks() when two of " + count + " are written again", x.dirtyBlocks(), count);
            x.flush();
            check.due(37, "the accesses of their flush", x.total(3), count);
            check.due(14, "accessesOf(0)", x.accessesOf(0), 1);
        }
    }

    private static void flushOfNone() {
        check.about("Returns the number of ticks that it took.");
        DiskArmSimulator x = new DiskArmSimulator();
        check.due(27, "flush() of none at 0", x.flush(), 0);
        x.submit(0, 571, 0);
        x.serve();
        int clock = x.clock();
        check.due(27, "flush() of none", x.flush(), 0);
        x.setWriteBack(true);
        check.due(27, "flush() of none while write-back is on", x.flush(), 0);
        check.due(27, "clock()", x.clock(), clock);
        check.due(27, "arm()", x.arm(), 63);
        check.due(27, "total(3)", x.total(3), 1);
    }

    /** With seeks of one tick for each cylinder the sum of the seeks tells the order of the cylinders. */
    private static DiskArmSimulator flushed(int first, int... blocks) {
        DiskArmSimulator x = new DiskArmSimulator();
        x.submit(0, first, 0);
        x.serve();
        x.setCurve(0, 0, 1);
        x.setWriteBack(true);
        for (int block : blocks) {
            x.submit(1, block, 0);
        }
        int begin = x.clock();
        int ticks = x.flush();
        check.due(27, "the ticks of the flush", ticks, x.clock() - begin);
        check.due(28, "dirtyBlocks() behind it", x.dirtyBlocks(), 0);
        return x;
    }

    /** The seek to cylinder 10 before the flush takes 10 + 3 * 4 + 10 ticks. */
    private static void flushFromTen(String what, int seeks, int arm, int... blocks) {
        DiskArmSimulator x = flushed(120, blocks);
        check.due(27, what + ", the ticks of its seeks", x.total(0) - 32, seeks);
        check.due(27, what + ", the last cylinder", x.arm(), arm);
    }

    private static void flushFromTheArm() {
        check.about("first those at places whose cylinder is at least that of the arm, in the order of their places, "
            + "and then the others in the order of their places");
        flushFromTen("cylinders 9, 10", 0 + 1, 9, 108, 120);
        flushFromTen("cylinders 9, 10 and 11", 0 + 1 + 2, 9, 108, 120, 132);
        flushFromTen("cylinders 9 and 11", 1 + 2, 9, 108, 132);
        flushFromTen("cylinders 8 and 9, all below", 2 + 1, 9, 108, 96);
        flushFromTen("cylinders 12 and 11, all above", 1 + 1, 12, 144, 132);
        flushFromTen("cylinders 9, 0, 63, 10", 0 + 53 + 63 + 9, 9, 108, 0, 570, 120);
        flushFromTen("cylinder 10 alone", 0, 10, 125);
        flushFromTen("cylinder 9 alone", 1, 9, 119);
    }

    /** Block 120 was read until 130; 131 begins at 230, 120 at 240 and 121 at 250. */
    private static void flushOfEqualCylinders() {
        check.about("first those at places whose cylinder is at least that of the arm, in the order of their places");
        check.due(27, "the order of the places, not of the angles", flushed(120, 131, 120).clock(), 240 + 120);
        check.due(27, "one place behind the other", flushed(120, 121, 120).clock(), 260);
        check.due(27, "the places of the second part too", flushed(132, 121, 120).arm(), 10);
        DiskArmSimulator x = flushed(132, 121, 120);
        // Block 132 was read until 130; from 131 on block 120 begins at 240 and 121 right behind it.
        check.due(27, "the clock behind them", x.clock(), 260);
    }

    private static void flushAtTheEnds() {
        check.about("first those at places whose cylinder is at least that of the arm");
        DiskArmSimulator x = flushed(571, 0, 570);
        check.due(27, "from cylinder 63 over 63 to 0", x.arm(), 0);
        DiskArmSimulator y = flushed(0, 570, 0);
        check.due(27, "from cylinder 0 over 0 to 63", y.arm(), 63);
        check.due(27, "the ticks of its seeks", y.total(0), 63);
    }

    private static void flushOfMovedBlocks() {
        check.about("in the order of their places");
        DiskArmSimulator x = new DiskArmSimulator();
        x.setCurve(0, 0, 1);
        x.setWriteBack(true);
        x.submit(1, 570, 0);
        x.submit(1, 0, 0);
        x.submit(1, 1, 0);
        x.moveToSpare(0);
        x.moveToSpare(570);
        x.flush();
        // Block 1 begins at 10 and ends at 20; behind a seek of 62 or 63 ticks 572 begins at 160 and 573 at 180.
        check.due(27, "clock()", x.clock(), 200);
        check.due(14, "accessesOf(0)", x.accessesOf(0), 1);
        check.due(14, "accessesOf(570)", x.accessesOf(570), 1);
        check.due(37, "total(3)", x.total(3), 3);
    }

    private static void flushCleans() {
        check.about("After this no block is dirty.");
        for (int count : new int[] {1, 8}) {
            DiskArmSimulator x = after(y -> Pasts.dirty(y, count));
            check.due(27, "flush() takes time", x.flush() > 0, true);
            check.due(28, "dirtyBlocks()", x.dirtyBlocks(), 0);
            check.due(37, "total(3)", x.total(3), count);
            check.due(27, "flush() again", x.flush(), 0);
            check.due(37, "total(3) then", x.total(3), count);
            check.due(6, "setWriteBack(false)", x.setWriteBack(false), true);
        }
    }

    private static void flushAtTheLastClock() {
        check.about("IllegalStateException if the clock is greater than 100000");
        check.due(27, "flush() of none at 100000", after(Pasts::atLastClock).flush(), 0);
        DiskArmSimulator x = after(Pasts::atLastClock);
        Pasts.dirty(x, 8);
        check.due(27, "flush() of eight at 100000", x.flush() > 0, true);
        check.due(28, "dirtyBlocks()", x.dirtyBlocks(), 0);
        check.due(37, "total(3)", x.total(3), 8);
        check.refused(27, "flush() of none at 100001", NO_STATE, Pasts::behindLastClock, DiskArmSimulator::flush);
        check.refused(27, "flush() of two at 100001", NO_STATE, y -> {
            Pasts.behindLastClock(y);
            Pasts.dirty(y, 2);
        }, DiskArmSimulator::flush);
    }
}
