import java.util.NoSuchElementException;

/** Promises 4, 5, 17, 24 to 26 and 31: how the next request is chosen and served. */
public final class PoliciesTest {
    private static final Check check = new Check();

    /** The first block of each of these cylinders of zone 0 is twelve times its number. */
    private static int blockAt(int cylinder) {
        return cylinder * 12;
    }

    /** An object whose arm is at cylinder 10; the request 0 has brought it there. */
    private static DiskArmSimulator atTen(int policy) {
        DiskArmSimulator x = new DiskArmSimulator();
        x.submit(0, blockAt(10), 0);
        x.serve();
        x.setPolicy(policy);
        return x;
    }

    private static void read(DiskArmSimulator x, int... cylinders) {
        for (int cylinder : cylinders) {
            x.submit(0, cylinder < 16 ? blockAt(cylinder) : 192 + 10 * (cylinder - 16), 0);
        }
    }

    private static void serves(DiskArmSimulator x, String what, int... requests) {
        for (int request : requests) {
            check.due(24, what + ", next", x.next(), request);
            check.due(25, what + ", serve", x.serve(), request);
        }
    }

    public static void main(String[] args) {
        settings();
        lowestNumber();
        leastDistance();
        toAndFro();
        directionStays();
        upwardOnly();
        leastAccessTime();
        lowestBucket();
        byDeadlines();
        sixWithDeadlines();
        buckets();
        serving();
        servingForAWhile();
        lateClock();
        check.end();
    }

    private static void settings() {
        DiskArmSimulator x = new DiskArmSimulator();
        for (int policy = 0; policy <= 6; policy++) {
            check.due(4, "setPolicy(" + policy + ")", x.setPolicy(policy), policy == 0 ? 0 : policy - 1);
        }
        for (int wrong : new int[] {-1, 7, Integer.MIN_VALUE, Integer.MAX_VALUE}) {
            check.throwing(4, "setPolicy(" + wrong + ")", IllegalArgumentException.class, () -> x.setPolicy(wrong));
        }
        check.due(4, "setPolicy(0)", x.setPolicy(0), 6);
        int[][] wrongBuckets = {{0, 1}, {1000, 1}, {-1, 1}, {1, 0}, {1, 10000}, {1, -1},
            {Integer.MAX_VALUE, 1}, {1, Integer.MIN_VALUE}};
        for (int[] w : wrongBuckets) {
            check.throwingVoid(5, "setBuckets", IllegalArgumentException.class, () -> x.setBuckets(w[0], w[1]));
        }
    }

    private static void lowestNumber() {
        DiskArmSimulator x = atTen(0);
        read(x, 15, 10, 3);
        x.cancel(1);
        serves(x, "policy 0", 2, 3);
    }

    private static void leastDistance() {
        DiskArmSimulator x = atTen(1);
        read(x, 13, 12, 8, 15);
        serves(x, "policy 1", 2, 1, 4, 3);
        DiskArmSimulator y = atTen(1);
        read(y, 8, 12);
        serves(y, "policy 1 with equal distances", 1, 2);
    }

    private static void toAndFro() {
        DiskArmSimulator x = atTen(2);
        read(x, 8, 9, 20, 10);
        serves(x, "policy 2 upwards", 4, 3);
        check.due(17, "isUpward", x.isUpward(), true);
        check.due(24, "next before it turns", x.next(), 2);
        check.due(17, "isUpward after next alone", x.isUpward(), true);
        serves(x, "policy 2 turning", 2);
        check.due(17, "isUpward after the turn", x.isUpward(), false);
        read(x, 10, 9);
        serves(x, "policy 2 downwards", 6, 1);
        check.due(17, "isUpward on the way down", x.isUpward(), false);
        serves(x, "policy 2 turning again", 5);
        check.due(17, "isUpward after the second turn", x.isUpward(), true);
    }

    private static void directionStays() {
        DiskArmSimulator x = atTen(2);
        read(x, 5);
        serves(x, "policy 2", 1);
        check.due(17, "isUpward", x.isUpward(), false);
        x.setPolicy(1);
        read(x, 12);
        serves(x, "policy 1", 2);
        check.due(17, "only policy 2 turns", x.isUpward(), false);
        check.due(4, "setPolicy(2)", x.setPolicy(2), 1);
        check.due(4, "the direction stays", x.isUpward(), false);
        read(x, 13, 2);
        serves(x, "policy 2 goes on downwards", 4, 3);
    }

    private static void upwardOnly() {
        DiskArmSimulator x = atTen(3);
        read(x, 8, 3, 25, 10, 3, 24);
        serves(x, "policy 3", 4, 6, 3, 2, 5, 1);
        check.due(17, "policy 3 has no direction", x.isUpward(), true);
    }

    private static void leastAccessTime() {
        DiskArmSimulator x = new DiskArmSimulator();
        x.setPolicy(4);
        x.submit(0, 300, 0);
        x.submit(0, 20, 0);
        serves(x, "policy 4", 1, 0);
        DiskArmSimulator y = new DiskArmSimulator();
        y.setPolicy(4);
        y.setCurve(0, 0, 0);
        y.submit(0, 2, 0);
        y.submit(0, 13, 0);
        y.submit(0, 1, 0);
        check.due(24, "policy 4 with equal times", y.next(), 1);
        y.setSkew(1);
        check.due(24, "policy 4 after the skew changed", y.next(), 2);
    }

    private static void lowestBucket() {
        DiskArmSimulator x = new DiskArmSimulator();
        x.setPolicy(5);
        x.submit(0, 0, 0);
        x.submit(0, 1, 500);
        x.submit(0, 5, 300);
        x.submit(0, 4, 399);
        serves(x, "policy 5", 3, 2, 1, 0);
        DiskArmSimulator y = new DiskArmSimulator();
        y.setPolicy(5);
        y.setBuckets(200, 30);
        y.submit(0, 0, 0);
        y.idle(60);
        y.submit(0, 6, 400);
        check.due(31, "bucket of the aged one", y.bucket(0), 1);
        check.due(31, "bucket of the young one", y.bucket(1), 2);
        check.due(24, "policy 5 with aging", y.next(), 0);
    }

    private static void byDeadlines() {
        expectByDeadlines(300, 300, 0, "both orders are in time");
        expectByDeadlines(300, 100, 1, "only the other order is in time");
        expectByDeadlines(108, 210, 0, "both finish at their deadlines");
        expectByDeadlines(107, 210, 1, "the first is a tick too late");
        expectByDeadlines(108, 209, 1, "the second is a tick too late");
        expectByDeadlines(0, 0, 1, "none has a deadline");
        expectByDeadlines(9999, 0, 0, "only one has a deadline");
        DiskArmSimulator x = new DiskArmSimulator();
        x.setPolicy(6);
        x.submit(0, 300, 200);
        x.submit(0, 20, 300);
        x.submit(0, 1, 0);
        check.due(24, "requests without a deadline wait", x.next(), 0);
        x.submit(0, 2, 5);
        check.due(24, "no order in time: the least access time of all", x.next(), 2);
    }

    /** Served as 0, 1 the blocks 300 and 20 are finished at 108 and 210, as 1, 0 at 90 and 228. */
    private static void expectByDeadlines(int first, int second, int want, String what) {
        DiskArmSimulator x = new DiskArmSimulator();
        x.setPolicy(6);
        x.submit(0, 300, first);
        x.submit(0, 20, second);
        check.due(24, "policy 6, " + what, x.next(), want);
    }

    private static void sixWithDeadlines() {
        DiskArmSimulator x = new DiskArmSimulator();
        x.setPolicy(6);
        x.submit(0, 300, 9999);
        for (int i = 1; i <= 5; i++) {
            x.submit(0, 20, 9999);
        }
        check.due(24, "of several best orders the first one", x.next(), 0);
        x.submit(0, 1, 1);
        check.due(24, "a seventh deadline is not considered", x.next(), 0);
        x.cancel(1);
        check.due(24, "it is one of six now, and too late", x.next(), 6);
    }

    private static void buckets() {
        DiskArmSimulator x = new DiskArmSimulator();
        int[][] allowances = {{0, 3}, {1, 0}, {199, 0}, {200, 1}, {399, 1}, {400, 2}, {599, 2}, {600, 3}, {9999, 3}};
        for (int[] pair : allowances) {
            int request = x.submit(0, 7, pair[0]);
            check.due(31, "bucket with the allowance " + pair[0], x.bucket(request), pair[1]);
        }
        x.idle(1);
        check.due(31, "bucket a tick later", x.bucket(7), 2);
        check.due(31, "bucket at its deadline", x.bucket(1), 0);
        x.idle(1);
        check.due(31, "bucket after its deadline", x.bucket(1), 0);
        x.idle(997);
        check.due(31, "bucket before it ages", x.bucket(0), 3);
        x.idle(1);
        check.due(31, "bucket after 1000 ticks", x.bucket(0), 2);
        check.due(31, "bucket with a deadline after 1000 ticks", x.bucket(8), 2);
        x.idle(1000);
        x.idle(1000);
        check.due(31, "bucket after 3000 ticks", x.bucket(0), 0);
        x.idle(1000);
        check.due(31, "bucket after 4000 ticks", x.bucket(0), 0);
        x.setBuckets(999, 9999);
        check.due(5, "bucket with other settings", x.bucket(0), 3);
        check.due(5, "bucket with other settings", x.bucket(8), 3);
        x.setBuckets(1, 4001);
        check.due(5, "bucket with an aging time of 4001", x.bucket(0), 3);
        x.setBuckets(1, 4000);
        check.due(5, "bucket with an aging time of 4000", x.bucket(0), 2);
        x.setBuckets(999, 1);
        check.due(5, "bucket with an aging time of 1", x.bucket(8), 0);
        int young = x.submit(0, 7, 250);
        check.due(5, "bucket with a width of 999", x.bucket(young), 0);
        x.setBuckets(100, 9999);
        check.due(5, "bucket with a width of 100", x.bucket(young), 2);
        check.throwingVoid(5, "setBuckets(1, 0)", IllegalArgumentException.class, () -> x.setBuckets(1, 0));
        check.due(5, "bucket after a refused change", x.bucket(young), 2);
        check.throwing(31, "bucket(-1)", IndexOutOfBoundsException.class, () -> x.bucket(-1));
        check.throwing(31, "bucket(10)", IndexOutOfBoundsException.class, () -> x.bucket(10));
        x.cancel(3);
        check.throwing(31, "bucket of a cancelled one", IllegalStateException.class, () -> x.bucket(3));
        x.serve();
        check.throwing(31, "bucket of a finished one", IllegalStateException.class, () -> x.bucket(0));
    }

    private static void serving() {
        DiskArmSimulator x = new DiskArmSimulator();
        check.throwing(24, "next of none", NoSuchElementException.class, x::next);
        check.throwing(25, "serve of none", NoSuchElementException.class, x::serve);
        x.submit(1, 20, 0);
        check.due(25, "serve", x.serve(), 0);
        check.due(30, "state", x.state(0), 1);
        check.due(32, "finish", x.finish(0), 90);
        check.due(15, "clock", x.clock(), 90);
        check.due(16, "arm", x.arm(), 1);
        check.due(29, "pendingRequests", x.pendingRequests(), 0);
        x.submit(0, 0, 0);
        x.cancel(1);
        for (int policy = 0; policy <= 6; policy++) {
            x.setPolicy(policy);
            check.throwing(24, "next of none", NoSuchElementException.class, x::next);
        }
    }

    private static void servingForAWhile() {
        DiskArmSimulator x = new DiskArmSimulator();
        check.due(26, "serveFor with none pending", x.serveFor(9999), 0);
        for (int block = 0; block < 5; block++) {
            x.submit(0, block, 0);
        }
        for (int wrong : new int[] {0, -1, 10000, Integer.MIN_VALUE, Integer.MAX_VALUE}) {
            check.throwing(26, "serveFor(" + wrong + ")", IllegalArgumentException.class, () -> x.serveFor(wrong));
        }
        check.due(26, "serveFor(10)", x.serveFor(10), 1);
        check.due(15, "clock", x.clock(), 10);
        check.due(26, "serveFor(11)", x.serveFor(11), 2);
        check.due(15, "clock", x.clock(), 30);
        check.due(26, "serveFor(1)", x.serveFor(1), 1);
        check.due(26, "serveFor(9999)", x.serveFor(9999), 1);
        check.due(15, "clock", x.clock(), 50);
        for (int i = 0; i < 12; i++) {
            x.submit(0, 100, 0);
        }
        check.due(26, "serveFor(9999) of twelve", x.serveFor(9999), 12);
    }

    private static void lateClock() {
        DiskArmSimulator x = new DiskArmSimulator();
        for (int i = 0; i < 100; i++) {
            x.idle(1000);
        }
        x.submit(0, 4, 0);
        x.submit(0, 5, 0);
        x.submit(0, 6, 0);
        x.save();
        check.due(26, "serveFor goes on behind 100000", x.serveFor(9999), 3);
        x.restore();
        check.due(25, "serve at 100000", x.serve(), 0);
        check.due(15, "clock", x.clock(), 100010);
        check.throwing(25, "serve behind 100000", IllegalStateException.class, x::serve);
        check.throwing(26, "serveFor behind 100000", IllegalStateException.class, () -> x.serveFor(1));
        check.throwing(26, "serveFor(0) behind 100000", IllegalArgumentException.class, () -> x.serveFor(0));
        check.throwing(27, "flush behind 100000", IllegalStateException.class, x::flush);
        check.due(24, "next behind 100000", x.next(), 1);
        check.due(19, "submit behind 100000", x.submit(0, 0, 0), 3);
        x.cancel(1);
        x.cancel(2);
        x.cancel(3);
        check.throwing(25, "serve of none behind 100000", NoSuchElementException.class, x::serve);
        check.throwing(26, "serveFor with none behind 100000", IllegalStateException.class, () -> x.serveFor(1));
    }
}
