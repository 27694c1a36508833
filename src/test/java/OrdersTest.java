/** Promises 34 to 36: exact orders of a few requests. */
public final class OrdersTest {
    private static final Class<UnsupportedOperationException> TOO_MANY = UnsupportedOperationException.class;
    private static final Class<IndexOutOfBoundsException> NO_INDEX = IndexOutOfBoundsException.class;
    private static final Check check = new Check();

    public static void main(String[] args) {
        none();
        bestOrder();
        equalOrders();
        sixAndSeven();
        deadlines();
        check.end();
    }

    private static void none() {
        DiskArmSimulator x = new DiskArmSimulator();
        x.idle(33);
        check.due(34, "bestFinish of none", x.bestFinish(), 33);
        check.due(36, "canMeetDeadlines of none", x.canMeetDeadlines(), true);
        check.throwing(35, "bestRequest(0) of none", NO_INDEX, () -> x.bestRequest(0));
        check.throwing(35, "bestRequest(-1) of none", NO_INDEX, () -> x.bestRequest(-1));
    }

    private static void bestOrder() {
        DiskArmSimulator x = new DiskArmSimulator();
        int[] blocks = {5, 3, 1, 4, 0, 2};
        for (int block : blocks) {
            x.submit(0, block, block == 3 ? 1 : 0);
        }
        check.due(34, "bestFinish", x.bestFinish(), 60);
        int[] order = {4, 2, 5, 1, 3, 0};
        for (int i = 0; i < 6; i++) {
            check.due(35, "bestRequest(" + i + ")", x.bestRequest(i), order[i]);
        }
        for (int wrong : new int[] {-1, 6, Integer.MIN_VALUE, Integer.MAX_VALUE}) {
            check.throwing(35, "bestRequest(" + wrong + ")", NO_INDEX, () -> x.bestRequest(wrong));
        }
        check.due(34, "nothing was served", x.clock(), 0);
        check.due(34, "all are pending", x.pendingRequests(), 6);
        x.cancel(4);
        check.due(35, "bestRequest(0) without the first", x.bestRequest(0), 2);
        check.throwing(35, "bestRequest(5) of five", NO_INDEX, () -> x.bestRequest(5));
        x.idle(15);
        check.due(34, "bestFinish after block 1 went by", x.bestFinish(), 140);
    }

    private static void equalOrders() {
        DiskArmSimulator x = new DiskArmSimulator();
        x.submit(0, 20, 0);
        x.submit(0, 300, 0);
        x.submit(0, 20, 0);
        // From 20 over 300 to 20, and from 300 to 20 twice, all is finished at 330; the former is first by numbers.
        check.due(34, "bestFinish", x.bestFinish(), 330);
        check.due(35, "bestRequest(0)", x.bestRequest(0), 0);
        check.due(35, "bestRequest(1)", x.bestRequest(1), 1);
        check.due(35, "bestRequest(2)", x.bestRequest(2), 2);
    }

    private static void sixAndSeven() {
        DiskArmSimulator x = new DiskArmSimulator();
        for (int i = 0; i < 7; i++) {
            x.submit(0, i, 0);
        }
        check.throwing(34, "bestFinish of seven", TOO_MANY, x::bestFinish);
        check.throwing(35, "bestRequest of seven", TOO_MANY, () -> x.bestRequest(0));
        check.throwing(35, "bestRequest(-1) of seven", TOO_MANY, () -> x.bestRequest(-1));
        check.throwing(36, "canMeetDeadlines of seven", TOO_MANY, x::canMeetDeadlines);
        x.serve();
        check.due(34, "bestFinish of six", x.bestFinish(), 70);
        check.due(35, "bestRequest(5) of six", x.bestRequest(5), 6);
        check.due(36, "canMeetDeadlines of six", x.canMeetDeadlines(), true);
    }

    /** Served as 0, 1 the blocks 300 and 20 are finished at 108 and 210, as 1, 0 at 90 and 228. */
    private static void deadlines() {
        expect(108, 210, true);
        expect(107, 210, false);
        expect(108, 209, false);
        expect(228, 90, true);
        expect(227, 90, false);
        expect(228, 89, false);
        expect(0, 90, true);
        expect(0, 89, false);
        expect(107, 0, false);
        expect(0, 0, true);
        DiskArmSimulator x = new DiskArmSimulator();
        x.submit(0, 300, 228);
        x.submit(0, 20, 90);
        check.due(34, "bestFinish looks at no deadlines", x.bestFinish(), 210);
        check.due(35, "nor does bestRequest", x.bestRequest(0), 0);
        x.submit(0, 1, 0);
        check.due(36, "one without a deadline can wait", x.canMeetDeadlines(), true);
        x.idle(1000);
        check.due(36, "all deadlines are over", x.canMeetDeadlines(), false);
    }

    private static void expect(int first, int second, boolean want) {
        DiskArmSimulator x = new DiskArmSimulator();
        x.submit(0, 300, first);
        x.submit(0, 20, second);
        check.due(36, "canMeetDeadlines with " + first + " and " + second, x.canMeetDeadlines(), want);
    }
}
