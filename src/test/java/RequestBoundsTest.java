import java.util.function.Consumer;

/** The boundary cases of time and of requests (promises 18, 19, 23, 29, 30, 32 and 33). */
public final class RequestBoundsTest {
    private static final Class<IndexOutOfBoundsException> NO_INDEX = IndexOutOfBoundsException.class;
    private static final Class<IllegalArgumentException> NO_ARGUMENT = IllegalArgumentException.class;
    private static final Class<IllegalStateException> NO_STATE = IllegalStateException.class;
    private static final Class<UnsupportedOperationException> UNSUPPORTED = UnsupportedOperationException.class;
    private static final Check check = new Check();

    public static void main(String[] args) {
        idleTicks();
        idleToTheLastClock();
        idleBehindTheLastClock();
        kinds();
        blocks();
        allowances();
        eightyRequests();
        twelvePending();
        twelvePendingAtOnce();
        ninthDirtyBlock();
        orderOfRefusals();
        states();
        noSuchRequest();
        cancelOfOthers();
        finishOfOthers();
        lateOrNot();
        lateOfOthers();
        arrivals();
        check.end();
    }

    private static DiskArmSimulator fresh() {
        return new DiskArmSimulator();
    }

    private static DiskArmSimulator after(Consumer<DiskArmSimulator> past) {
        DiskArmSimulator x = fresh();
        past.accept(x);
        return x;
    }

    private static void idleTicks() {
        check.about("IllegalArgumentException if the number of ticks is out of range");
        check.due(18, "idle(1)", fresh().idle(1), 1);
        check.due(18, "idle(1000)", fresh().idle(1000), 1000);
        for (int wrong : new int[] {0, 1001, -1, Integer.MIN_VALUE, Integer.MAX_VALUE}) {
            check.refused(18, "idle(" + wrong + ")", NO_ARGUMENT, Pasts::none, x -> x.idle(wrong));
            check.refused(18, "idle(" + wrong + ")", NO_ARGUMENT, Pasts::rich, x -> x.idle(wrong));
        }
        check.about("Lets time pass in which nothing is accessed.");
        DiskArmSimulator x = after(Pasts::rich);
        int clock = x.clock();
        int arm = x.arm();
        int accesses = x.total(3);
        check.due(18, "idle(1000)", x.idle(1000), clock + 1000);
        check.due(18, "clock()", x.clock(), clock + 1000);
        check.due(18, "arm()", x.arm(), arm);
        check.due(18, "total(3)", x.total(3), accesses);
    }

    private static void idleToTheLastClock() {
        check.about("IllegalStateException if the clock would be greater than 100000");
        DiskArmSimulator x = after(y -> Pasts.idleTo(y, 99999));
        check.due(18, "idle(1) at 99999", x.idle(1), 100000);
        check.refused(18, "idle(2) at 99999", NO_STATE, y -> Pasts.idleTo(y, 99999), y -> y.idle(2));
        DiskArmSimulator z = after(y -> Pasts.idleTo(y, 99000));
        check.due(18, "idle(1000) at 99000", z.idle(1000), 100000);
        check.refused(18, "idle(1000) at 99001", NO_STATE, y -> Pasts.idleTo(y, 99001), y -> y.idle(1000));
        check.refused(18, "idle(1) at 100000", NO_STATE, Pasts::atLastClock, y -> y.idle(1));
        check.refused(18, "idle(1000) at 100000", NO_STATE, Pasts::atLastClock, y -> y.idle(1000));
    }

    private static void idleBehindTheLastClock() {
        check.about("IllegalStateException if the clock would be greater than 100000");
        DiskArmSimulator x = after(Pasts::behindLastClock);
        check.due(15, "clock()", x.clock(), 100001);
        check.refused(18, "idle(1) at 100001", NO_STATE, Pasts::behindLastClock, y -> y.idle(1));
        check.about("If a method can throw several exceptions, they are checked in the order in which they are listed.");
        check.refused(18, "idle(0) at 100001", NO_ARGUMENT, Pasts::behindLastClock, y -> y.idle(0));
        check.refused(18, "idle(1001) at 100000", NO_ARGUMENT, Pasts::atLastClock, y -> y.idle(1001));
    }

    private static void kinds() {
        check.about("A request has a kind, 0 for reading or 1 for writing");
        DiskArmSimulator x = fresh();
        check.due(19, "submit(0, 5, 0)", x.submit(0, 5, 0), 0);
        check.due(19, "submit(1, 5, 0)", x.submit(1, 5, 0), 1);
        check.about("IllegalArgumentException if the kind or the allowance is out of range");
        for (int kind : new int[] {-1, 2, Integer.MIN_VALUE, Integer.MAX_VALUE}) {
            check.refused(19, "submit of kind " + kind, NO_ARGUMENT, Pasts::none, y -> y.submit(kind, 5, 0));
            check.refused(19, "submit of kind " + kind, NO_ARGUMENT, Pasts::rich, y -> y.submit(kind, 5, 0));
        }
    }

    private static void blocks() {
        check.about("IndexOutOfBoundsException if there is no such block");
        DiskArmSimulator x = fresh();
        check.due(19, "submit(0, 0, 0)", x.submit(0, 0, 0), 0);
        check.due(19, "submit(0, 571, 0)", x.submit(0, 571, 0), 1);
        x.serve();
        x.serve();
        check.due(16, "arm() behind block 571", x.arm(), 63);
        for (int block : new int[] {-1, 572, 575, 576, Integer.MIN_VALUE, Integer.MAX_VALUE}) {
            check.refused(19, "submit of block " + block, NO_INDEX, Pasts::none, y -> y.submit(0, block, 0));
            check.refused(19, "submit of block " + block, NO_INDEX, Pasts::rich, y -> y.submit(1, block, 9));
        }
    }

    private static void allowances() {
        check.about("0 for a request without a deadline; otherwise the number of ticks, 1 to 9999, from the arrival to "
            + "the deadline");
        DiskArmSimulator x = fresh();
        x.setBuckets(1, 9999);
        x.submit(0, 0, 0);
        x.submit(0, 1, 1);
        x.submit(0, 2, 9999);
        check.due(31, "bucket without a deadline", x.bucket(0), 3);
        check.due(31, "bucket a tick before the deadline", x.bucket(1), 1);
        x.setBuckets(999, 9999);
        Pasts.idleTo(x, 9998 - 2996);
        check.due(31, "bucket 2997 ticks before the deadline", x.bucket(2), 3);
        x.idle(1);
        check.due(31, "bucket 2996 ticks before the deadline", x.bucket(2), 2);
        check.about("IllegalArgumentException if the kind or the allowance is out of range");
        for (int allowance : new int[] {-1, 10000, Integer.MIN_VALUE, Integer.MAX_VALUE}) {
            check.refused(19, "submit with " + allowance, NO_ARGUMENT, Pasts::none, y -> y.submit(0, 5, allowance));
            check.refused(19, "submit with " + allowance, NO_ARGUMENT, Pasts::rich, y -> y.submit(1, 5, allowance));
        }
    }

    private static void eightyRequests() {
        check.about("There are at most 80 requests, numbered from 0 in the order in which they are submitted");
        DiskArmSimulator x = after(y -> Pasts.requests(y, 79));
        check.due(19, "the eightieth", x.submit(0, 8, 0), 79);
        check.due(30, "its state", x.state(79), 0);
        check.throwing(19, "the eighty-first", NO_STATE, () -> x.submit(0, 8, 0));
        check.throwing(30, "state(80)", NO_INDEX, () -> x.state(80));
        check.due(29, "pendingRequests()", x.pendingRequests(), 2);
        check.about("IllegalStateException if there are 80 requests");
        check.refused(19, "a read behind 80", NO_STATE, y -> Pasts.requests(y, 80), y -> y.submit(0, 8, 0));
        check.refused(19, "a write behind 80", NO_STATE, y -> Pasts.requests(y, 80), y -> y.submit(1, 8, 0));
        check.refused(19, "a write of a dirty block behind 80", NO_STATE, y -> Pasts.requests(y, 80),
            y -> y.submit(1, 9, 0));
        check.refused(19, "a read of a dirty block behind 80", NO_STATE, y -> Pasts.requests(y, 80),
            y -> y.submit(0, 9, 0));
        check.due(19, "a cancelled one gives its number to none", cancelledOf80().state(79), 2);
        check.throwing(19, "a read behind 80, one of them cancelled", NO_STATE, () -> cancelledOf80().submit(0, 8, 0));
    }

    private static DiskArmSimulator cancelledOf80() {
        DiskArmSimulator x = after(y -> Pasts.requests(y, 80));
        x.cancel(79);
        return x;
    }

    private static void twelvePending() {
        check.about("and at most 12 of them are pending at the same time");
        DiskArmSimulator x = after(y -> Pasts.reads(y, 11));
        check.due(29, "pendingRequests()", x.pendingRequests(), 11);
        check.due(19, "the twelfth", x.submit(0, 200, 0), 11);
        check.due(29, "pendingRequests()", x.pendingRequests(), 12);
        check.throwing(19, "the thirteenth", NO_STATE, () -> x.submit(0, 200, 0));
        check.due(29, "pendingRequests() behind it", x.pendingRequests(), 12);
        check.throwing(30, "state(12) behind it", NO_INDEX, () -> x.state(12));
        x.cancel(3);
        check.due(19, "one in place of a cancelled one", x.submit(1, 200, 0), 12);
        check.throwing(19, "another one", NO_STATE, () -> x.submit(0, 200, 0));
        x.serve();
        check.due(19, "one in place of a finished one", x.submit(0, 200, 0), 13);
        check.throwing(19, "another one", NO_STATE, () -> x.submit(1, 200, 0));
        check.refused(19, "a read beside 12", NO_STATE, y -> Pasts.reads(y, 12), y -> y.submit(0, 8, 0));
        check.refused(19, "a write beside 12", NO_STATE, y -> Pasts.reads(y, 12), y -> y.submit(1, 8, 50));
    }

    private static void dirtyAndPending(DiskArmSimulator x, int pending) {
        Pasts.dirty(x, 1);
        for (int i = 0; i < pending; i++) {
            x.submit(0, 5, 0);
        }
    }

    private static void twelvePendingAtOnce() {
        check.about("or 12 pending requests (also if this one would be finished at once)");
        check.due(19, "a write beside 11", after(y -> dirtyAndPending(y, 11)).submit(1, 7, 0), 12);
        check.due(19, "a read of a dirty block beside 11", after(y -> dirtyAndPending(y, 11)).submit(0, 0, 0), 12);
        check.refused(19, "a write beside 12", NO_STATE, y -> dirtyAndPending(y, 12), y -> y.submit(1, 7, 0));
        check.refused(19, "a write of a dirty block beside 12", NO_STATE, y -> dirtyAndPending(y, 12),
            y -> y.submit(1, 0, 0));
        check.refused(19, "a read of a dirty block beside 12", NO_STATE, y -> dirtyAndPending(y, 12),
            y -> y.submit(0, 0, 0));
        DiskArmSimulator x = after(y -> dirtyAndPending(y, 12));
        check.throwing(19, "a write beside 12", NO_STATE, () -> x.submit(1, 7, 0));
        check.due(28, "dirtyBlocks() behind it", x.dirtyBlocks(), 1);
        x.cancel(1);
        check.about("Requests that are finished at once are never pending.");
        check.due(19, "a write in place of a cancelled one", x.submit(1, 7, 0), 13);
        check.due(30, "its state", x.state(13), 1);
        check.due(29, "pendingRequests()", x.pendingRequests(), 11);
        check.due(19, "a read of it", x.submit(0, 7, 0), 14);
        check.due(29, "pendingRequests()", x.pendingRequests(), 11);
    }

    private static void ninthDirtyBlock() {
        check.about("or the request would make a ninth block dirty");
        DiskArmSimulator x = after(y -> Pasts.dirty(y, 7));
        check.due(19, "a write of an eighth block", x.submit(1, 571, 0), 7);
        check.due(28, "dirtyBlocks()", x.dirtyBlocks(), 8);
        check.throwing(19, "a write of a ninth block", NO_STATE, () -> x.submit(1, 570, 0));
        check.due(28, "dirtyBlocks() behind it", x.dirtyBlocks(), 8);
        check.due(19, "a write of the eighth block again", x.submit(1, 571, 0), 8);
        check.due(19, "a write of the first block again", x.submit(1, 0, 0), 9);
        check.due(19, "a read of a dirty block", x.submit(0, 571, 0), 10);
        check.due(19, "a read of a clean block", x.submit(0, 570, 0), 11);
        check.due(30, "it is pending", x.state(11), 0);
        check.due(28, "dirtyBlocks()", x.dirtyBlocks(), 8);
        check.refused(19, "a write of a ninth block", NO_STATE, y -> Pasts.dirty(y, 8), y -> y.submit(1, 570, 3));
        DiskArmSimulator off = fresh();
        for (int block = 0; block < 9; block++) {
            check.due(19, "a write without write-back", off.submit(1, block, 0), block);
        }
        check.due(28, "dirtyBlocks() without write-back", off.dirtyBlocks(), 0);
    }

    private static void orderOfRefusals() {
        check.about("If a method can throw several exceptions, they are checked in the order in which they are listed.");
        Consumer<DiskArmSimulator> full = y -> Pasts.reads(y, 12);
        check.refused(19, "no kind, no block, no room", NO_ARGUMENT, full, y -> y.submit(2, 572, 0));
        check.refused(19, "no allowance, no block, no room", NO_ARGUMENT, full, y -> y.submit(0, -1, 10000));
        check.refused(19, "no kind, no room", NO_ARGUMENT, full, y -> y.submit(-1, 5, 0));
        check.refused(19, "no allowance, no room", NO_ARGUMENT, full, y -> y.submit(0, 5, -1));
        check.refused(19, "no block, no room", NO_INDEX, full, y -> y.submit(0, 572, 0));
        check.refused(19, "no block behind 80", NO_INDEX, y -> Pasts.requests(y, 80), y -> y.submit(0, -1, 0));
        check.refused(19, "no block beside 8 dirty ones", NO_INDEX, y -> Pasts.dirty(y, 8), y -> y.submit(1, 572, 0));
        check.refused(19, "no kind, no block", NO_ARGUMENT, Pasts::rich, y -> y.submit(2, 572, 0));
        check.refused(19, "no allowance, no block", NO_ARGUMENT, Pasts::rich, y -> y.submit(1, -1, 10000));
    }

    private static void states() {
        check.about("It is pending (0), finished (1) or cancelled (2).");
        DiskArmSimulator x = after(y -> Pasts.reads(y, 3));
        x.serve();
        x.cancel(2);
        check.due(30, "state(0), which was served", x.state(0), 1);
        check.due(30, "state(1), which waits", x.state(1), 0);
        check.due(30, "state(2), which was cancelled", x.state(2), 2);
        Pasts.dirty(x, 1);
        check.due(30, "state(3), which was finished at once", x.state(3), 1);
    }

    /** There are the requests 0 to 8 in the rich past, and none in the other one. */
    private static void noSuchRequest() {
        check.about("IndexOutOfBoundsException if there is no such request");
        check.due(30, "state(8), the last one", after(Pasts::rich).state(8), 1);
        check.due(32, "finish(0), the first one", after(Pasts::rich).finish(0) > 0, true);
        for (int request : new int[] {-1, 9, 79, 80, Integer.MIN_VALUE, Integer.MAX_VALUE}) {
            noSuchRequest(request, Pasts::rich);
        }
        for (int request : new int[] {-1, 0, 1}) {
            noSuchRequest(request, Pasts::none);
        }
        noSuchRequest(80, y -> Pasts.requests(y, 80));
    }

    private static void noSuchRequest(int request, Consumer<DiskArmSimulator> past) {
        String of = "(" + request + ")";
        check.refused(23, "cancel" + of, NO_INDEX, past, y -> y.cancel(request));
        check.refused(30, "state" + of, NO_INDEX, past, y -> y.state(request));
        check.refused(31, "bucket" + of, NO_INDEX, past, y -> y.bucket(request));
        check.refused(32, "finish" + of, NO_INDEX, past, y -> y.finish(request));
        check.refused(33, "isLate" + of, NO_INDEX, past, y -> y.isLate(request));
    }

    /** In the rich past 0 and 1 are finished, 3 is cancelled, 7 was finished at once. */
    private static void cancelOfOthers() {
        check.about("IllegalStateException if the request is not pending");
        for (int request : new int[] {0, 1, 3, 7}) {
            check.refused(23, "cancel(" + request + ")", NO_STATE, Pasts::rich, y -> y.cancel(request));
            check.refused(31, "bucket(" + request + ")", NO_STATE, Pasts::rich, y -> y.bucket(request));
        }
        DiskArmSimulator x = after(Pasts::rich);
        int pending = x.pendingRequests();
        check.due(23, "pendingRequests()", pending, 4);
        x.cancel(2);
        check.due(30, "state(2) of a cancelled one", x.state(2), 2);
        check.due(29, "pendingRequests() without it", x.pendingRequests(), 3);
        check.throwingVoid(23, "cancel(2) again", NO_STATE, () -> x.cancel(2));
        check.due(29, "pendingRequests() behind it", x.pendingRequests(), 3);
        check.due(28, "cancelling cleans no block", x.dirtyBlocks(), 2);
    }

    private static void finishOfOthers() {
        check.about("IllegalStateException if the request is not finished");
        for (int request : new int[] {2, 3, 6}) {
            check.refused(32, "finish(" + request + ")", NO_STATE, Pasts::rich, y -> y.finish(request));
            check.refused(33, "isLate(" + request + ")", NO_STATE, Pasts::rich, y -> y.isLate(request));
        }
        DiskArmSimulator x = fresh();
        x.submit(0, 0, 0);
        check.throwing(32, "finish(0) while it is pending", NO_STATE, () -> x.finish(0));
        x.serve();
        check.due(32, "finish(0) then", x.finish(0), 10);
        x.idle(50);
        check.due(32, "finish(0) later", x.finish(0), 10);
        x.setWriteBack(true);
        x.submit(1, 0, 0);
        check.due(32, "finish(1), which was finished at once", x.finish(1), 60);
    }

    /** Block 0 is finished at 10. */
    private static boolean lateWith(int allowance) {
        DiskArmSimulator x = fresh();
        x.submit(0, 0, allowance);
        x.serve();
        return x.isLate(0);
    }

    private static void lateOrNot() {
        check.about("Returns whether a request was finished after its deadline.");
        check.due(33, "finished a tick before the deadline", lateWith(11), false);
        check.due(33, "finished at the deadline", lateWith(10), false);
        check.due(33, "finished a tick after the deadline", lateWith(9), true);
        check.due(33, "the least allowance", lateWith(1), true);
        check.due(33, "the greatest allowance", lateWith(9999), false);
        DiskArmSimulator x = fresh();
        Pasts.idleTo(x, 9990);
        x.submit(0, 3, 9999);
        Pasts.idleTo(x, 9990 + 9989);
        // 19979 is 59 behind a whole turn; sector 6 begins a tick later and ends at 19990.
        x.submit(0, 6, 11);
        x.submit(0, 7, 20);
        x.cancel(0);
        x.serve();
        x.serve();
        check.due(32, "finish(1)", x.finish(1), 19990);
        check.due(33, "isLate(1), at its deadline", x.isLate(1), false);
        check.due(33, "isLate(2), a tick after its deadline", x.isLate(2), true);
    }

    private static void lateOfOthers() {
        check.about("UnsupportedOperationException if the request has no deadline");
        check.refused(33, "isLate(0) without a deadline", UNSUPPORTED, y -> {
            y.submit(0, 0, 0);
            y.serve();
        }, y -> y.isLate(0));
        check.refused(33, "isLate(8), finished at once without a deadline", UNSUPPORTED, Pasts::rich,
            y -> y.isLate(8));
        check.about("If a method can throw several exceptions, they are checked in the order in which they are listed.");
        check.refused(33, "isLate(6), pending without a deadline", NO_STATE, Pasts::rich, y -> y.isLate(6));
        check.refused(33, "isLate(3), cancelled without a deadline", NO_STATE, Pasts::rich, y -> y.isLate(3));
    }

    private static void arrivals() {
        check.about("an arrival, which is the clock when it is submitted");
        DiskArmSimulator x = fresh();
        x.submit(0, 0, 0);
        x.serve();
        x.submit(0, 1, 0);
        x.serve();
        check.due(39, "the second one waits from 10 to 20", x.averageResponse(), 10.0);
        check.about("the request is finished at the clock then");
        check.due(32, "finish(1)", x.finish(1), 20);
        DiskArmSimulator late = after(Pasts::behindLastClock);
        check.due(19, "a request that arrives at 100001", late.submit(1, 0, 9999), 1);
        late.setWriteBack(true);
        check.due(19, "one that is finished at once then", late.submit(1, 0, 1), 2);
        check.due(32, "finish(2)", late.finish(2), 100001);
        check.due(33, "isLate(2)", late.isLate(2), false);
    }
}
