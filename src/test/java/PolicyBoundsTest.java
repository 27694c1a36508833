import java.util.NoSuchElementException;
import java.util.function.Consumer;

/** The boundary cases of policies, buckets and serving (promises 4, 5, 17, 24 to 26 and 31). */
public final class PolicyBoundsTest {
    private static final Class<IllegalArgumentException> NO_ARGUMENT = IllegalArgumentException.class;
    private static final Class<IllegalStateException> NO_STATE = IllegalStateException.class;
    private static final Class<NoSuchElementException> NO_ELEMENT = NoSuchElementException.class;
    private static final Check check = new Check();

    public static void main(String[] args) {
        policies();
        bucketSettings();
        nonePending();
        nextChangesNothing();
        equalByNumber();
        equalByDistance();
        movedWhilePending();
        directionUp();
        directionDown();
        directionTurns();
        directionStays();
        aboveTheArm();
        lowestCylinder();
        equalByAccessTime();
        lowestBucket();
        finishedAtTheDeadline();
        sixDeadlines();
        bestOfSeveral();
        noOrderOrNoDeadline();
        bucketsByDeadline();
        bucketsByAge();
        serveAtTheLastClock();
        servingTicks();
        servingUntil();
        servingAtTheLastClock();
        check.end();
    }

    /** The first block of a cylinder. */
    private static int at(int cylinder) {
        int[] firsts = {0, 192, 352, 480};
        int[] sectors = {12, 10, 8, 6};
        return firsts[cylinder / 16] + cylinder % 16 * sectors[cylinder / 16];
    }

    private static DiskArmSimulator after(Consumer<DiskArmSimulator> past) {
        DiskArmSimulator x = new DiskArmSimulator();
        past.accept(x);
        return x;
    }

    /** The arm is at a cylinder, where request 0 has brought it; the others read these cylinders. */
    private static DiskArmSimulator reading(int policy, int arm, int... cylinders) {
        DiskArmSimulator x = new DiskArmSimulator();
        x.submit(0, at(arm), 0);
        x.serve();
        x.setPolicy(policy);
        for (int cylinder : cylinders) {
            x.submit(0, at(cylinder), 0);
        }
        return x;
    }

    private static void serves(String what, DiskArmSimulator x, int... requests) {
        for (int request : requests) {
            check.due(24, what + ", next", x.next(), request);
            check.due(25, what + ", serve", x.serve(), request);
        }
    }

    private static void policies() {
        check.about("The policy is 0 at first.");
        DiskArmSimulator x = new DiskArmSimulator();
        check.due(4, "setPolicy(6)", x.setPolicy(6), 0);
        check.due(4, "setPolicy(0)", x.setPolicy(0), 6);
        check.due(4, "setPolicy(5)", x.setPolicy(5), 0);
        check.about("IllegalArgumentException if the policy is out of range");
        for (int wrong : new int[] {-1, 7, Integer.MIN_VALUE, Integer.MAX_VALUE}) {
            check.throwing(4, "setPolicy(" + wrong + ")", NO_ARGUMENT, () -> x.setPolicy(wrong));
            check.refused(4, "setPolicy(" + wrong + ")", NO_ARGUMENT, Pasts::none, y -> y.setPolicy(wrong));
            check.refused(4, "setPolicy(" + wrong + ")", NO_ARGUMENT, Pasts::rich, y -> y.setPolicy(wrong));
        }
        check.due(4, "setPolicy(1) behind them", x.setPolicy(1), 5);
    }

    private static void bucketSettings() {
        check.about("The width is 200 and the aging time 1000 at first.");
        DiskArmSimulator x = new DiskArmSimulator();
        x.submit(0, 0, 199);
        x.submit(0, 0, 200);
        x.submit(0, 0, 0);
        check.due(5, "bucket(0)", x.bucket(0), 0);
        check.due(5, "bucket(1)", x.bucket(1), 1);
        x.idle(999);
        check.due(5, "bucket(2) at 999", x.bucket(2), 3);
        x.idle(1);
        check.due(5, "bucket(2) at 1000", x.bucket(2), 2);
        widths();
        agingTimes();
        check.about("IllegalArgumentException if a number is out of range");
        int[][] wrong = {{0, 5}, {1000, 5}, {-1, 5}, {5, 0}, {5, 10000}, {5, -1}, {0, 0}, {1000, 10000},
            {Integer.MIN_VALUE, 5}, {Integer.MAX_VALUE, 5}, {5, Integer.MIN_VALUE}, {5, Integer.MAX_VALUE}};
        for (int[] w : wrong) {
            String what = "setBuckets(" + w[0] + ", " + w[1] + ")";
            check.refused(5, what, NO_ARGUMENT, Pasts::rich, y -> y.setBuckets(w[0], w[1]));
            DiskArmSimulator z = after(PolicyBoundsTest::tellingBuckets);
            check.throwingVoid(5, what, NO_ARGUMENT, () -> z.setBuckets(w[0], w[1]));
            check.due(5, "bucket(0) behind " + what, z.bucket(0), 1);
            check.due(5, "bucket(1) behind " + what, z.bucket(1), 2);
        }
    }

    /** Any other width would show in request 0, and an aging time of 5 in both. */
    private static void tellingBuckets(DiskArmSimulator x) {
        x.setBuckets(100, 10);
        x.submit(0, 0, 210);
        x.submit(0, 0, 0);
        x.idle(10);
    }

    private static void widths() {
        DiskArmSimulator x = new DiskArmSimulator();
        x.submit(0, 0, 1);
        x.submit(0, 0, 2);
        x.submit(0, 0, 3);
        x.submit(0, 0, 998);
        x.submit(0, 0, 999);
        x.setBuckets(1, 1);
        check.due(5, "width 1, a tick before the deadline", x.bucket(0), 1);
        check.due(5, "width 1, two ticks before the deadline", x.bucket(1), 2);
        check.due(5, "width 1, three ticks before the deadline", x.bucket(2), 3);
        x.setBuckets(999, 1);
        check.due(5, "width 999, 998 ticks before the deadline", x.bucket(3), 0);
        check.due(5, "width 999, 999 ticks before the deadline", x.bucket(4), 1);
    }

    private static void agingTimes() {
        DiskArmSimulator x = new DiskArmSimulator();
        x.submit(0, 0, 0);
        x.setBuckets(1, 1);
        check.due(5, "aging time 1, at once", x.bucket(0), 3);
        x.idle(1);
        check.due(5, "aging time 1, a tick later", x.bucket(0), 2);
        x.setBuckets(1, 9999);
        Pasts.idleTo(x, 9998);
        check.due(5, "aging time 9999, after 9998 ticks", x.bucket(0), 3);
        x.idle(1);
        check.due(5, "aging time 9999, after 9999 ticks", x.bucket(0), 2);
    }

    private static void nonePending() {
        check.about("NoSuchElementException if no request is pending");
        check.refused(24, "next() of a new object", NO_ELEMENT, Pasts::none, DiskArmSimulator::next);
        check.refused(25, "serve() of a new object", NO_ELEMENT, Pasts::none, DiskArmSimulator::serve);
        for (int policy = 0; policy <= 6; policy++) {
            int chosen = policy;
            Consumer<DiskArmSimulator> past = y -> {
                y.setPolicy(chosen);
                y.submit(0, 100, 50);
                y.submit(0, 10, 50);
                y.serve();
                y.cancel(y.next());
                Pasts.dirty(y, 2);
            };
            check.refused(24, "next() by policy " + policy, NO_ELEMENT, past, DiskArmSimulator::next);
            check.refused(25, "serve() by policy " + policy, NO_ELEMENT, past, DiskArmSimulator::serve);
            DiskArmSimulator x = after(past);
            int number = x.submit(0, 5, 0);
            check.due(24, "next() with one by policy " + policy, x.next(), number);
        }
    }

    private static void nextChangesNothing() {
        check.about("Returns the request that the policy would choose now.");
        for (int policy = 0; policy <= 6; policy++) {
            int chosen = policy;
            DiskArmSimulator x = after(Pasts::rich);
            DiskArmSimulator twin = after(Pasts::rich);
            x.setPolicy(chosen);
            twin.setPolicy(chosen);
            int first = x.next();
            check.due(24, "next() again by policy " + policy, x.next(), first);
            check.due(25, "serve() takes it by policy " + policy, twin.serve(), first);
            DiskArmSimulator other = after(Pasts::rich);
            other.setPolicy(chosen);
            check.due(24, "what comes after next() by policy " + policy, Afterwards.of(x), Afterwards.of(other));
        }
    }

    private static void equalByNumber() {
        check.about("Policy 0 takes the request with the lowest number.");
        DiskArmSimulator x = reading(0, 5, 60, 5, 0);
        x.cancel(1);
        serves("policy 0", x, 2, 3);
    }

    private static void equalByDistance() {
        check.about("Policy 1 takes the one with the least distance.");
        serves("policy 1, one nearer below", reading(1, 10, 12, 9), 2, 1);
        serves("policy 1, one nearer above", reading(1, 10, 8, 11), 2, 1);
        check.about("if several requests are equal by it, it is the one with the lowest number");
        serves("policy 1, below and above", reading(1, 10, 9, 11), 1, 2);
        serves("policy 1, above and below", reading(1, 10, 11, 9), 1, 2);
        serves("policy 1, the same cylinder", reading(1, 10, 12, 12, 10, 10), 3, 4, 1, 2);
        serves("policy 1, at both ends", reading(1, 31, 63, 0), 2, 1);
        DiskArmSimulator x = reading(1, 10, 10, 10, 10);
        x.cancel(1);
        serves("policy 1, a lower one was cancelled", x, 2, 3);
    }

    /** Request 1 is nearest, until its block is moved to cylinder 63; request 2 is at cylinder 20. */
    private static void movedWhilePending() {
        check.about("Distances are those between the arm and the cylinder of the request, and the access time is the "
            + "number of ticks that an access would take now.");
        for (int policy = 1; policy <= 3; policy++) {
            DiskArmSimulator x = reading(policy, 10, 10, 20);
            check.due(24, "policy " + policy + " before the block is moved", x.next(), 1);
            x.moveToSpare(at(10));
            serves("policy " + policy + " when the block is moved", x, 2, 1);
            check.due(16, "arm()", x.arm(), 63);
        }
        for (int policy = 4; policy <= 6; policy++) {
            DiskArmSimulator x = new DiskArmSimulator();
            x.setPolicy(policy);
            x.submit(0, 0, 0);
            x.submit(0, 1, 0);
            check.due(24, "policy " + policy + " before the block is moved", x.next(), 0);
            x.moveToSpare(0);
            check.due(24, "policy " + policy + " when the block is moved", x.next(), 1);
        }
        DiskArmSimulator y = new DiskArmSimulator();
        y.setPolicy(6);
        y.submit(0, 0, 180);
        y.submit(0, 1, 0);
        y.moveToSpare(0);
        check.due(24, "a deadline that the spare place just meets", y.next(), 0);
        y.idle(60);
        check.due(24, "a deadline that the spare place does not meet", y.next(), 1);
    }

    private static void directionUp() {
        check.about("Policy 2 has a direction, which is up at first");
        check.due(17, "isUpward() of a new object", new DiskArmSimulator().isUpward(), true);
        check.about("requests whose cylinder is that of the arm, or lies in the direction, come first, by distance");
        serves("policy 2, the arm's cylinder before one above", reading(2, 10, 11, 10), 2, 1);
        serves("policy 2, one far above before one just below", reading(2, 10, 9, 63), 2, 1);
        serves("policy 2, the arm's cylinder before one just below", reading(2, 10, 9, 10), 2, 1);
        serves("policy 2, equal ones above", reading(2, 10, 12, 11, 11), 2, 3, 1);
        DiskArmSimulator x = reading(2, 63, 63, 62);
        serves("policy 2 at the last cylinder", x, 1);
        check.due(17, "isUpward() at the last cylinder", x.isUpward(), true);
        serves("policy 2 at the last cylinder", x, 2);
        check.due(17, "isUpward() behind it", x.isUpward(), false);
    }

    /** The arm is at cylinder 10, going down, where request 1 has brought it. */
    private static DiskArmSimulator downwardAtTen(int... cylinders) {
        DiskArmSimulator x = reading(2, 20, 10);
        x.serve();
        check.due(17, "isUpward() on the way down", x.isUpward(), false);
        for (int cylinder : cylinders) {
            x.submit(0, at(cylinder), 0);
        }
        return x;
    }

    private static void directionDown() {
        check.about("requests whose cylinder is that of the arm, or lies in the direction, come first, by distance");
        serves("policy 2 down, the arm's cylinder before one below", downwardAtTen(9, 10), 3, 2);
        serves("policy 2 down, one far below before one just above", downwardAtTen(11, 0), 3, 2);
        serves("policy 2 down, the arm's cylinder before one just above", downwardAtTen(11, 10), 3, 2);
        serves("policy 2 down, equal ones below", downwardAtTen(8, 9, 9), 3, 4, 2);
        DiskArmSimulator x = downwardAtTen(10);
        serves("policy 2 down, the arm's cylinder alone", x, 2);
        check.due(17, "isUpward() behind it", x.isUpward(), false);
    }

    private static void directionTurns() {
        check.about("if there are none, the one with the least distance is taken, and the direction is reversed when "
            + "it is served");
        DiskArmSimulator x = reading(2, 10, 3, 9, 8, 9);
        check.due(24, "next() with none above", x.next(), 2);
        check.due(17, "isUpward() before it is served", x.isUpward(), true);
        serves("policy 2 turning down", x, 2);
        check.due(17, "isUpward() behind it", x.isUpward(), false);
        serves("policy 2 going on down", x, 4, 3, 1);
        check.due(17, "isUpward() at the end", x.isUpward(), false);
        DiskArmSimulator y = downwardAtTen(40, 11, 11);
        serves("policy 2 turning up", y, 3);
        check.due(17, "isUpward() behind it", y.isUpward(), true);
        serves("policy 2 going on up", y, 4, 2);
        DiskArmSimulator z = reading(2, 10, 9);
        z.serveFor(1);
        check.due(17, "serveFor turns it too", z.isUpward(), false);
    }

    private static void directionStays() {
        check.about("The direction of policy 2 stays.");
        for (int policy = 0; policy <= 6; policy++) {
            DiskArmSimulator x = downwardAtTen();
            x.setPolicy(policy);
            check.due(4, "isUpward() under policy " + policy, x.isUpward(), false);
            x.setPolicy(2);
            check.due(4, "isUpward() behind policy " + policy, x.isUpward(), false);
        }
        for (int policy : new int[] {0, 1, 3, 4, 5, 6}) {
            DiskArmSimulator x = reading(policy, 10, 9);
            x.serve();
            check.due(17, "isUpward() after going down by policy " + policy, x.isUpward(), true);
        }
        DiskArmSimulator flushed = reading(2, 10);
        Pasts.dirty(flushed, 1);
        flushed.flush();
        check.due(17, "isUpward() after a flush downwards", flushed.isUpward(), true);
    }

    private static void aboveTheArm() {
        check.about("Policy 3 takes the one with the least distance among those whose cylinder is at least that of the "
            + "arm");
        serves("policy 3, the arm's cylinder before one above", reading(3, 10, 11, 10), 2, 1);
        serves("policy 3, one far above before one just below", reading(3, 10, 9, 63), 2, 1);
        serves("policy 3, the arm's cylinder before one just below", reading(3, 10, 9, 10), 2, 1);
        serves("policy 3, equal ones above", reading(3, 10, 12, 11, 11), 2, 3, 1);
    }

    private static void lowestCylinder() {
        check.about("and if there are none, the one with the lowest cylinder");
        serves("policy 3, none above", reading(3, 10, 9, 4, 8), 2, 3, 1);
        serves("policy 3, equal ones below", reading(3, 10, 9, 4, 4), 2, 3, 1);
        serves("policy 3, from the last cylinder to the first", reading(3, 63, 62, 0, 1), 2, 3, 1);
        serves("policy 3, one alone just below", reading(3, 63, 62), 1);
    }

    /** With a seek of 0 ticks the blocks 2 and 14 begin at the angle 20 of the cylinders 0 and 1. */
    private static void equalByAccessTime() {
        check.about("if several requests are equal by it, it is the one with the lowest number");
        for (int policy : new int[] {4, 5, 6}) {
            for (int[] blocks : new int[][] {{2, 14}, {14, 2}}) {
                DiskArmSimulator x = new DiskArmSimulator();
                x.setPolicy(policy);
                x.setCurve(0, 0, 0);
                x.submit(0, 3, 0);
                x.submit(0, blocks[0], 0);
                x.submit(0, blocks[1], 0);
                check.due(24, "policy " + policy + ", equal access times", x.next(), 1);
                x.cancel(1);
                check.due(24, "policy " + policy + ", one of them cancelled", x.next(), 2);
            }
        }
        check.about("Policy 4 takes the one with the least access time.");
        DiskArmSimulator x = new DiskArmSimulator();
        x.setPolicy(4);
        x.submit(0, 0, 0);
        x.submit(0, 11, 0);
        check.due(24, "policy 4 at 0", x.next(), 0);
        x.idle(1);
        check.due(24, "policy 4 a tick later", x.next(), 1);
        x.idle(110);
        check.due(24, "policy 4 when that one is missed too", x.next(), 0);
    }

    private static void lowestBucket() {
        check.about("Policy 5 takes the one with the lowest bucket, and among these the one with the least access time.");
        DiskArmSimulator x = new DiskArmSimulator();
        x.setPolicy(5);
        x.submit(0, 1, 200);
        x.submit(0, 2, 0);
        x.submit(0, 9, 199);
        check.due(24, "the allowance 199 before 200", x.next(), 2);
        x.submit(0, 8, 1);
        check.due(24, "of two in bucket 0 the sooner one", x.next(), 3);
        x.idle(1);
        check.due(24, "three in bucket 0 a tick later", x.next(), 0);
        DiskArmSimulator y = new DiskArmSimulator();
        y.setPolicy(5);
        y.submit(0, 9, 600);
        y.submit(0, 2, 0);
        check.due(24, "the allowance 600 is in bucket 3", y.next(), 1);
        y.idle(1);
        check.due(24, "and in bucket 2 a tick later", y.next(), 0);
    }

    private static int byDeadlines(int first, int second) {
        DiskArmSimulator x = new DiskArmSimulator();
        x.setPolicy(6);
        x.submit(0, 300, first);
        x.submit(0, 20, second);
        return x.next();
    }

    /** As 0, 1 the blocks 300 and 20 are finished at 108 and 210, as 1, 0 at 90 and 228; 1 has the less access time. */
    private static void finishedAtTheDeadline() {
        check.about("if they can be served in an order in which each one is finished at its deadline at the latest, "
            + "beginning now and without other requests between, it takes the first request of the best such order");
        check.due(24, "both at their deadlines", byDeadlines(108, 210), 0);
        check.due(24, "the first a tick late", byDeadlines(107, 210), 1);
        check.due(24, "the second a tick late", byDeadlines(108, 209), 1);
        check.due(24, "the first with a tick to spare", byDeadlines(109, 211), 0);
        check.due(24, "only the longer order is in time", byDeadlines(228, 90), 1);
        check.due(24, "both orders are in time: the one that ends first", byDeadlines(228, 210), 0);
        check.due(24, "a single deadline, just met", byDeadlines(108, 0), 0);
        check.due(24, "a single deadline, just missed", byDeadlines(107, 0), 1);
        DiskArmSimulator x = new DiskArmSimulator();
        x.setPolicy(6);
        x.submit(0, 300, 109);
        x.submit(0, 0, 0);
        check.due(24, "a sooner one without a deadline does not come between", x.next(), 0);
        x.idle(1);
        check.due(24, "the deadline can just be met", x.next(), 0);
        Pasts.idleTo(x, 41);
        check.due(24, "the deadline can't be met any more", x.next(), 1);
    }

    private static void deadlines(DiskArmSimulator x, int count) {
        x.setPolicy(6);
        for (int i = 0; i < count; i++) {
            x.submit(0, 300, 9999);
        }
    }

    private static void sixDeadlines() {
        check.about("Policy 6 considers the pending requests with deadlines, but only the six with the lowest numbers "
            + "if there are more");
        DiskArmSimulator x = after(y -> deadlines(y, 5));
        x.submit(0, 0, 1);
        check.due(24, "a sixth that is too late spoils all orders", x.next(), 5);
        DiskArmSimulator y = after(z -> deadlines(z, 6));
        y.submit(0, 0, 1);
        check.due(24, "a seventh that is too late is not considered", y.next(), 0);
        y.submit(0, 0, 9999);
        check.due(24, "nor is an eighth that would be sooner", y.next(), 0);
        y.cancel(2);
        check.due(24, "the seventh is one of six behind a cancelled one", y.next(), 6);
        DiskArmSimulator w = after(z -> deadlines(z, 5));
        w.submit(0, 1, 0);
        w.submit(0, 0, 1);
        check.due(24, "those without a deadline do not count", w.next(), 6);
    }

    /** From 0 the orders 20, 300, 20 and 300, 20, 20 of the blocks both end at 330. */
    private static void bestOfSeveral() {
        check.about("the one in which the last request is finished first, and of several the lexicographically first "
            + "one by the numbers of the requests");
        DiskArmSimulator x = new DiskArmSimulator();
        x.setPolicy(6);
        x.submit(0, 20, 9999);
        x.submit(0, 300, 9999);
        x.submit(0, 20, 9999);
        check.due(24, "two best orders", x.next(), 0);
        check.due(24, "the clock at which they end", x.bestFinish(), 330);
        DiskArmSimulator y = new DiskArmSimulator();
        y.setPolicy(6);
        y.submit(0, 300, 9999);
        y.submit(0, 20, 9999);
        y.submit(0, 20, 9999);
        check.due(24, "two best orders, numbered otherwise", y.next(), 0);
        DiskArmSimulator z = new DiskArmSimulator();
        z.setPolicy(6);
        z.submit(0, 20, 90);
        z.submit(0, 300, 9999);
        z.submit(0, 300, 9999);
        check.due(24, "a deadline leaves one first request", z.next(), 0);
    }

    private static void noOrderOrNoDeadline() {
        check.about("If there is no such order or no request with a deadline, it takes the one with the least access "
            + "time of all.");
        check.due(24, "no deadlines", byDeadlines(0, 0), 1);
        check.due(24, "deadlines that can't be met together", byDeadlines(200, 90), 1);
        DiskArmSimulator x = new DiskArmSimulator();
        x.setPolicy(6);
        x.submit(0, 300, 200);
        x.submit(0, 20, 90);
        x.submit(0, 0, 0);
        check.due(24, "the soonest of all has no deadline", x.next(), 2);
        x.cancel(1);
        check.due(24, "without the one that was too much", x.next(), 0);
    }

    private static int bucketWith(int allowance, int idle, int width, int aging) {
        DiskArmSimulator x = new DiskArmSimulator();
        x.setBuckets(width, aging);
        x.submit(0, 7, allowance);
        Pasts.idleTo(x, idle);
        return x.bucket(0);
    }

    private static void bucketsByDeadline() {
        check.about("Otherwise it is 3 or the deadline minus the clock divided by the width, whichever is less, and at "
            + "least 0; a deadline before the clock gives 0.");
        int[][] due = {{1, 0}, {99, 0}, {100, 1}, {101, 1}, {199, 1}, {200, 2}, {299, 2}, {300, 3}, {301, 3}, {399, 3},
            {400, 3}, {500, 3}, {9999, 3}};
        for (int[] pair : due) {
            check.due(31, "width 100, allowance " + pair[0], bucketWith(pair[0], 0, 100, 9999), pair[1]);
        }
        check.due(31, "a tick before the deadline", bucketWith(50, 49, 1, 9999), 1);
        check.due(31, "at the deadline", bucketWith(50, 50, 1, 9999), 0);
        check.due(31, "a tick after the deadline", bucketWith(50, 51, 1, 9999), 0);
        check.due(31, "a tick after the deadline, width 999", bucketWith(50, 51, 999, 9999), 0);
        check.due(31, "long after the deadline", bucketWith(50, 5000, 1, 9999), 0);
        check.about("The bucket of a request without a deadline is 3.");
        check.due(31, "without a deadline", bucketWith(0, 0, 1, 9999), 3);
        check.due(31, "without a deadline, later", bucketWith(0, 9998, 1, 9999), 3);
    }

    private static void bucketsByAge() {
        check.about("From this, also for requests without a deadline, the time since the arrival divided by the aging "
            + "time is subtracted, but the bucket is at least 0.");
        int[][] due = {{0, 3}, {9, 3}, {10, 2}, {19, 2}, {20, 1}, {29, 1}, {30, 0}, {39, 0}, {40, 0}, {1000, 0}};
        for (int[] pair : due) {
            check.due(31, "no deadline, " + pair[0] + " ticks old", bucketWith(0, pair[0], 1, 10), pair[1]);
            check.due(31, "a far deadline, " + pair[0] + " ticks old", bucketWith(9999, pair[0], 1, 10), pair[1]);
        }
        check.due(31, "the deadline gives 2, the age takes 1", bucketWith(210, 10, 100, 10), 1);
        check.due(31, "the deadline gives 1, the age takes 1", bucketWith(209, 10, 100, 10), 0);
        check.due(31, "the deadline gives 1, the age takes 2", bucketWith(120, 20, 100, 10), 0);
        check.due(31, "the deadline is over and the age takes 5", bucketWith(20, 50, 100, 10), 0);
        check.due(31, "the least is taken before the age", bucketWith(9999, 10, 1, 10), 2);
        DiskArmSimulator x = new DiskArmSimulator();
        x.setBuckets(1, 10);
        x.idle(25);
        x.submit(0, 0, 0);
        x.idle(9);
        check.due(31, "the age counts from the arrival", x.bucket(0), 3);
        x.idle(1);
        check.due(31, "a tick later", x.bucket(0), 2);
    }

    private static void atLastClockWith(DiskArmSimulator x, int count) {
        Pasts.atLastClock(x);
        Pasts.reads(x, count);
    }

    private static void behindLastClockWith(DiskArmSimulator x, int count) {
        Pasts.behindLastClock(x);
        Pasts.reads(x, count);
    }

    private static void serveAtTheLastClock() {
        check.about("IllegalStateException if the clock is greater than 100000");
        DiskArmSimulator x = after(y -> atLastClockWith(y, 2));
        check.due(25, "serve() at 100000", x.serve(), 0);
        check.due(25, "the clock behind it", x.clock() > 100000, true);
        check.throwing(25, "serve() again", NO_STATE, x::serve);
        check.due(29, "pendingRequests()", x.pendingRequests(), 1);
        check.due(30, "state(1)", x.state(1), 0);
        check.refused(25, "serve() at 100001", NO_STATE, y -> behindLastClockWith(y, 2), DiskArmSimulator::serve);
        check.due(24, "next() at 100001", after(y -> behindLastClockWith(y, 2)).next(), 1);
        check.about("If a method can throw several exceptions, they are checked in the order in which they are listed.");
        check.refused(25, "serve() of none at 100001", NO_ELEMENT, Pasts::behindLastClock, DiskArmSimulator::serve);
    }

    private static void servingTicks() {
        check.about("IllegalArgumentException if the number of ticks is out of range");
        check.due(26, "serveFor(1)", after(y -> Pasts.reads(y, 12)).serveFor(1), 1);
        check.due(26, "serveFor(9999)", after(y -> Pasts.reads(y, 12)).serveFor(9999), 12);
        for (int wrong : new int[] {0, 10000, -1, Integer.MIN_VALUE, Integer.MAX_VALUE}) {
            check.refused(26, "serveFor(" + wrong + ")", NO_ARGUMENT, Pasts::none, y -> y.serveFor(wrong));
            check.refused(26, "serveFor(" + wrong + ")", NO_ARGUMENT, Pasts::rich, y -> y.serveFor(wrong));
        }
        check.about("If a method can throw several exceptions, they are checked in the order in which they are listed.");
        check.refused(26, "serveFor(0) at 100001", NO_ARGUMENT, y -> behindLastClockWith(y, 2), y -> y.serveFor(0));
        check.refused(26, "serveFor(10000) at 100001", NO_ARGUMENT, Pasts::behindLastClock, y -> y.serveFor(10000));
    }

    /** The blocks 0 to 4 of cylinder 0 are read one behind the other, 10 ticks each, from 120 on. */
    private static DiskArmSimulator fiveInARow() {
        DiskArmSimulator x = new DiskArmSimulator();
        x.idle(120);
        for (int block = 0; block < 5; block++) {
            x.submit(0, block, 0);
        }
        return x;
    }

    private static void servingUntil() {
        check.about("Serves requests, one after the other, as long as a request is pending and the clock is less than "
            + "its value at the beginning plus a number of ticks.");
        int[][] due = {{1, 1}, {9, 1}, {10, 1}, {11, 2}, {19, 2}, {20, 2}, {21, 3}, {40, 4}, {41, 5}, {50, 5}, {51, 5},
            {9999, 5}};
        for (int[] pair : due) {
            DiskArmSimulator x = fiveInARow();
            check.due(26, "serveFor(" + pair[0] + ")", x.serveFor(pair[0]), pair[1]);
            check.due(26, "the clock behind it", x.clock(), 120 + 10 * pair[1]);
            check.due(26, "pendingRequests() behind it", x.pendingRequests(), 5 - pair[1]);
        }
        DiskArmSimulator none = new DiskArmSimulator();
        check.due(26, "serveFor(9999) of none", none.serveFor(9999), 0);
        check.due(26, "the clock behind it", none.clock(), 0);
        DiskArmSimulator slow = new DiskArmSimulator();
        slow.setCurve(50, 20, 9);
        for (int i = 0; i < 12; i++) {
            slow.submit(0, i % 2 == 0 ? 570 : 0, 0);
        }
        check.due(26, "serveFor(9999) of the slowest twelve", slow.serveFor(9999), 12);
    }

    /** At 100000 the angle is 40, where block 4 begins. */
    private static void servingAtTheLastClock() {
        check.about("IllegalStateException if the clock is greater than 100000");
        DiskArmSimulator x = after(Pasts::atLastClock);
        check.due(26, "serveFor(1) of none at 100000", x.serveFor(1), 0);
        for (int block = 4; block < 7; block++) {
            x.submit(0, block, 0);
        }
        check.due(26, "serveFor(11) at 100000", x.serveFor(11), 2);
        check.due(26, "the clock behind it", x.clock(), 100020);
        check.throwing(26, "serveFor(1) behind it", NO_STATE, () -> x.serveFor(1));
        check.refused(26, "serveFor(1) at 100001", NO_STATE, y -> behindLastClockWith(y, 2), y -> y.serveFor(1));
        check.refused(26, "serveFor(1) of none at 100001", NO_STATE, Pasts::behindLastClock, y -> y.serveFor(1));
    }
}
