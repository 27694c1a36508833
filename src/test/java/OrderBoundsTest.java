import java.util.function.Consumer;

/** The boundary cases of exact orders (promises 34 to 36). */
public final class OrderBoundsTest {
    private static final Class<UnsupportedOperationException> UNSUPPORTED = UnsupportedOperationException.class;
    private static final Class<IndexOutOfBoundsException> NO_INDEX = IndexOutOfBoundsException.class;
    private static final Check check = new Check();

    public static void main(String[] args) {
        nonePending();
        onePending();
        sixPending();
        sevenPending();
        sixAgain();
        positions();
        eachSearchAnew();
        orderOfRefusals();
        equalOrders();
        deadlinesDoNotCount();
        deadlinesToTheTick();
        someWithoutDeadline();
        sixDeadlines();
        behindTheLastClock();
        check.end();
    }

    private static DiskArmSimulator after(Consumer<DiskArmSimulator> past) {
        DiskArmSimulator x = new DiskArmSimulator();
        past.accept(x);
        return x;
    }

    /** The blocks from a number down to 0, which are read best in the opposite order. */
    private static void downwards(DiskArmSimulator x, int count) {
        for (int block = count - 1; block >= 0; block--) {
            x.submit(0, block, 0);
        }
    }

    private static void nonePending() {
        check.about("Returns the clock then; the present clock if no request is pending.");
        check.due(34, "bestFinish() of a new object", new DiskArmSimulator().bestFinish(), 0);
        DiskArmSimulator x = new DiskArmSimulator();
        x.submit(0, 0, 1);
        x.submit(0, 1, 1);
        x.serve();
        x.cancel(1);
        check.due(34, "bestFinish() of none", x.bestFinish(), 10);
        check.about("Returns whether they can; true if no request is pending.");
        check.due(36, "canMeetDeadlines() of a new object", new DiskArmSimulator().canMeetDeadlines(), true);
        check.due(36, "canMeetDeadlines() of none, one of them late", x.canMeetDeadlines(), true);
        check.about("IndexOutOfBoundsException if there is no such position");
        check.refused(35, "bestRequest(0) of a new object", NO_INDEX, Pasts::none, y -> y.bestRequest(0));
        check.refused(35, "bestRequest(-1) of a new object", NO_INDEX, Pasts::none, y -> y.bestRequest(-1));
        check.throwing(35, "bestRequest(0) of none", NO_INDEX, () -> x.bestRequest(0));
    }

    private static void onePending() {
        check.about("Returns the least clock at which all pending requests can be finished, if they are served in any "
            + "order from now on.");
        DiskArmSimulator x = new DiskArmSimulator();
        x.submit(0, 3, 40);
        check.due(34, "bestFinish() of one", x.bestFinish(), 40);
        check.due(35, "bestRequest(0) of one", x.bestRequest(0), 0);
        check.due(36, "canMeetDeadlines() of one", x.canMeetDeadlines(), true);
        x.idle(30);
        check.due(34, "bestFinish() at the angle", x.bestFinish(), 40);
        x.idle(1);
        check.due(34, "bestFinish() a tick behind the angle", x.bestFinish(), 160);
        check.due(36, "canMeetDeadlines() then", x.canMeetDeadlines(), false);
        check.throwing(35, "bestRequest(1) of one", NO_INDEX, () -> x.bestRequest(1));
    }

    private static void sixPending() {
        check.about("UnsupportedOperationException if more than 6 requests are pending");
        DiskArmSimulator x = after(y -> downwards(y, 6));
        check.due(34, "bestFinish() of six", x.bestFinish(), 60);
        check.due(36, "canMeetDeadlines() of six", x.canMeetDeadlines(), true);
        for (int position = 0; position < 6; position++) {
            check.due(35, "bestRequest(" + position + ") of six", x.bestRequest(position), 5 - position);
        }
        check.due(34, "nothing is served by it", x.clock(), 0);
        check.due(34, "all are pending behind it", x.pendingRequests(), 6);
        check.due(34, "what comes after the three", Afterwards.of(x), Afterwards.of(after(y -> downwards(y, 6))));
    }

    private static void sevenPending() {
        check.about("UnsupportedOperationException if more than 6 requests are pending");
        for (int count : new int[] {7, 12}) {
            Consumer<DiskArmSimulator> past = y -> downwards(y, count);
            check.refused(34, "bestFinish() of " + count, UNSUPPORTED, past, DiskArmSimulator::bestFinish);
            check.refused(35, "bestRequest(0) of " + count, UNSUPPORTED, past, y -> y.bestRequest(0));
            check.refused(36, "canMeetDeadlines() of " + count, UNSUPPORTED, past, DiskArmSimulator::canMeetDeadlines);
        }
    }

    private static void sixAgain() {
        check.about("UnsupportedOperationException if more than 6 requests are pending");
        DiskArmSimulator x = after(y -> downwards(y, 7));
        check.throwing(34, "bestFinish() of seven", UNSUPPORTED, x::bestFinish);
        x.cancel(0);
        check.due(34, "bestFinish() when one is cancelled", x.bestFinish(), 60);
        check.due(35, "bestRequest(5) then", x.bestRequest(5), 1);
        x.setWriteBack(true);
        x.submit(1, 9, 1);
        check.due(34, "one that is finished at once does not count", x.bestFinish(), 60);
        x.submit(0, 6, 0);
        check.throwing(36, "canMeetDeadlines() of seven", UNSUPPORTED, x::canMeetDeadlines);
        x.setPolicy(4);
        check.due(25, "serve()", x.serve(), 6);
        check.due(34, "bestFinish() when one is served", x.bestFinish(), 70);
        check.due(36, "canMeetDeadlines() then", x.canMeetDeadlines(), true);
        check.due(35, "bestRequest(5) then", x.bestRequest(5), 8);
    }

    private static void positions() {
        check.about("IndexOutOfBoundsException if there is no such position");
        for (int count = 1; count <= 6; count++) {
            int pending = count;
            Consumer<DiskArmSimulator> past = y -> downwards(y, pending);
            check.due(35, "the last position of " + count, after(past).bestRequest(count - 1), 0);
            check.refused(35, "the position behind the last of " + count, NO_INDEX, past, y -> y.bestRequest(pending));
            check.refused(35, "bestRequest(-1) of " + count, NO_INDEX, past, y -> y.bestRequest(-1));
        }
        for (int wrong : new int[] {6, 7, Integer.MIN_VALUE, Integer.MAX_VALUE}) {
            check.refused(35, "bestRequest(" + wrong + ")", NO_INDEX, Pasts::rich, y -> y.bestRequest(wrong));
        }
    }

    /** Block 2 has the least access time; with the deadline of block 1 only block 1 is considered by policy 6. */
    private static void eachSearchAnew() {
        check.about("Returns a request of the order in which all pending requests are finished first");
        DiskArmSimulator x = new DiskArmSimulator();
        x.submit(0, 3, 0);
        x.submit(0, 2, 0);
        check.due(35, "bestRequest(0) before any other search", x.bestRequest(0), 1);
        x.submit(0, 1, 9999);
        check.due(35, "bestRequest(0) behind a submission", x.bestRequest(0), 2);
        x.setPolicy(6);
        x.cancel(2);
        x.submit(0, 4, 9999);
        check.due(24, "next()", x.next(), 3);
        check.due(35, "bestRequest(0) behind next()", x.bestRequest(0), 1);
        check.due(35, "bestRequest(2) behind next()", x.bestRequest(2), 3);
        x.idle(25);
        check.due(36, "canMeetDeadlines()", x.canMeetDeadlines(), true);
        check.due(35, "bestRequest(0) when block 2 went by", x.bestRequest(0), 0);
        check.due(35, "bestRequest(2) when block 2 went by", x.bestRequest(2), 1);
    }

    private static void orderOfRefusals() {
        check.about("If a method can throw several exceptions, they are checked in the order in which they are listed.");
        Consumer<DiskArmSimulator> seven = y -> downwards(y, 7);
        for (int wrong : new int[] {-1, 7, Integer.MAX_VALUE}) {
            check.refused(35, "bestRequest(" + wrong + ") of seven", UNSUPPORTED, seven, y -> y.bestRequest(wrong));
        }
    }

    private static void order(String what, int[] blocks, int finish, int... requests) {
        DiskArmSimulator x = new DiskArmSimulator();
        for (int block : blocks) {
            x.submit(0, block, 0);
        }
        check.due(34, "bestFinish() of " + what, x.bestFinish(), finish);
        for (int position = 0; position < requests.length; position++) {
            check.due(35, "bestRequest(" + position + ") of " + what, x.bestRequest(position), requests[position]);
        }
    }

    /** From 0 the orders 20, 300, 20 and 300, 20, 20 of the blocks both end at 330. */
    private static void equalOrders() {
        check.about("of several such orders it is the lexicographically first one by the numbers of the requests");
        order("20, 300, 20", new int[] {20, 300, 20}, 330, 0, 1, 2);
        order("300, 20, 20", new int[] {300, 20, 20}, 330, 0, 1, 2);
        order("20, 20, 300", new int[] {20, 20, 300}, 330, 0, 2, 1);
        order("one block six times", new int[] {7, 7, 7, 7, 7, 7}, 80 + 5 * 120, 0, 1, 2, 3, 4, 5);
        order("a block twice behind another one", new int[] {1, 0, 1}, 140, 0, 1, 2);
        check.about("Returns a request of the order in which all pending requests are finished first");
        order("a better order that is not the first", new int[] {20, 300}, 210, 1, 0);
    }

    private static void deadlinesDoNotCount() {
        check.about("if they are served in any order from now on");
        DiskArmSimulator x = new DiskArmSimulator();
        x.submit(0, 300, 228);
        x.submit(0, 20, 90);
        check.due(34, "bestFinish()", x.bestFinish(), 210);
        check.due(35, "bestRequest(0)", x.bestRequest(0), 0);
        check.due(36, "canMeetDeadlines(), in the other order", x.canMeetDeadlines(), true);
        x.idle(1000);
        check.due(36, "canMeetDeadlines() when they are over", x.canMeetDeadlines(), false);
        check.due(34, "bestFinish() when they are over", x.bestFinish() > 1000, true);
    }

    private static boolean canMeet(int first, int second) {
        DiskArmSimulator x = new DiskArmSimulator();
        x.submit(0, 300, first);
        x.submit(0, 20, second);
        return x.canMeetDeadlines();
    }

    /** As 0, 1 the blocks 300 and 20 are finished at 108 and 210, as 1, 0 at 90 and 228. */
    private static void deadlinesToTheTick() {
        check.about("in which each one that has a deadline is finished at its deadline at the latest");
        check.due(36, "108 and 210", canMeet(108, 210), true);
        check.due(36, "107 and 210", canMeet(107, 210), false);
        check.due(36, "108 and 209", canMeet(108, 209), false);
        check.due(36, "228 and 90", canMeet(228, 90), true);
        check.due(36, "227 and 90", canMeet(227, 90), false);
        check.due(36, "228 and 89", canMeet(228, 89), false);
        check.due(36, "1 and 9999", canMeet(1, 9999), false);
        check.due(36, "9999 and 9999", canMeet(9999, 9999), true);
    }

    private static void someWithoutDeadline() {
        check.about("in which each one that has a deadline is finished at its deadline at the latest");
        check.due(36, "none and none", canMeet(0, 0), true);
        check.due(36, "108 and none", canMeet(108, 0), true);
        check.due(36, "107 and none", canMeet(107, 0), false);
        check.due(36, "none and 90", canMeet(0, 90), true);
        check.due(36, "none and 89", canMeet(0, 89), false);
    }

    /** The blocks 5 to 0 are read one behind the other, block 0 until 10 and block 5 until 60. */
    private static void sixDeadlines() {
        check.about("Returns whether all pending requests can be served in an order, from now on");
        for (int tight = -1; tight < 6; tight++) {
            DiskArmSimulator x = new DiskArmSimulator();
            for (int block = 5; block >= 0; block--) {
                x.submit(0, block, 10 * (block + 1) - (block == tight ? 1 : 0));
            }
            check.due(36, "six of six deadlines, a tick less for " + tight, x.canMeetDeadlines(), tight == -1);
            check.due(34, "bestFinish()", x.bestFinish(), 60);
        }
    }

    private static void behindTheLastClock() {
        check.about("from now on");
        DiskArmSimulator x = after(Pasts::behindLastClock);
        check.due(34, "bestFinish() of none at 100001", x.bestFinish(), 100001);
        x.submit(0, 16, 10);
        check.due(34, "bestFinish() of one at 100001", x.bestFinish(), 100011);
        check.due(36, "canMeetDeadlines() of one at 100001", x.canMeetDeadlines(), true);
        check.due(35, "bestRequest(0) of one at 100001", x.bestRequest(0), 1);
    }
}
