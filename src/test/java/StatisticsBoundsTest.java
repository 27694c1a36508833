import java.util.function.Consumer;

/** The boundary cases of sums, shares and averages (promises 37 to 40). */
public final class StatisticsBoundsTest {
    private static final Class<ArithmeticException> NO_QUOTIENT = ArithmeticException.class;
    private static final Class<IllegalArgumentException> NO_ARGUMENT = IllegalArgumentException.class;
    private static final Check check = new Check();

    public static void main(String[] args) {
        sumsAtFirst();
        noSuchSum();
        whatCounts();
        clockOfZero();
        clockOfOne();
        noneFinished();
        responseOfZero();
        averageOfSome();
        noneWithDeadline();
        shares();
        mostRequests();
        check.end();
    }

    private static DiskArmSimulator after(Consumer<DiskArmSimulator> past) {
        DiskArmSimulator x = new DiskArmSimulator();
        past.accept(x);
        return x;
    }

    private static void totals(String what, DiskArmSimulator x, int... sums) {
        for (int i = 0; i < 4; i++) {
            check.due(37, "total(" + i + ") " + what, x.total(i), sums[i]);
        }
    }

    private static void sumsAtFirst() {
        check.about("Returns a sum over all accesses so far, for requests and for flushes.");
        totals("at first", new DiskArmSimulator(), 0, 0, 0, 0);
    }

    private static void noSuchSum() {
        check.about("IllegalArgumentException if what is not from 0 to 3");
        for (int wrong : new int[] {-1, 4, Integer.MIN_VALUE, Integer.MAX_VALUE}) {
            check.refused(37, "total(" + wrong + ")", NO_ARGUMENT, Pasts::none, x -> x.total(wrong));
            check.refused(37, "total(" + wrong + ")", NO_ARGUMENT, Pasts::rich, x -> x.total(wrong));
        }
    }

    /** Block 300 is read with a seek of 56, a wait of 40 and a transfer of 12 ticks. */
    private static void whatCounts() {
        check.about("Returns a sum over all accesses so far, for requests and for flushes.");
        DiskArmSimulator x = new DiskArmSimulator();
        x.submit(0, 300, 0);
        totals("while it is pending", x, 0, 0, 0, 0);
        x.serve();
        totals("behind one", x, 56, 40, 12, 1);
        x.idle(1000);
        totals("behind idling", x, 56, 40, 12, 1);
        x.submit(0, 5, 0);
        x.cancel(1);
        totals("behind a cancelled one", x, 56, 40, 12, 1);
        x.setWriteBack(true);
        x.submit(1, 301, 0);
        x.submit(0, 301, 0);
        totals("behind two that were finished at once", x, 56, 40, 12, 1);
        x.flush();
        // At 1108 the angle is 28; block 301 begins at 108.
        totals("behind a flush", x, 56, 40 + 80, 24, 2);
        x.flush();
        totals("behind a flush of none", x, 56, 120, 24, 2);
    }

    private static void clockOfZero() {
        check.about("ArithmeticException if the clock is 0");
        check.refused(38, "utilization() at 0", NO_QUOTIENT, Pasts::none, DiskArmSimulator::utilization);
        check.refused(38, "utilization() at 0 with finished requests", NO_QUOTIENT, x -> Pasts.dirty(x, 3),
            DiskArmSimulator::utilization);
        check.refused(38, "utilization() back at 0", NO_QUOTIENT, x -> {
            Pasts.reads(x, 2);
            x.save();
            x.serve();
            x.restore();
        }, DiskArmSimulator::utilization);
    }

    private static void clockOfOne() {
        check.about("Returns the ticks of all seeks, waits and transfers together, divided by the clock, both converted "
            + "to double.");
        DiskArmSimulator x = new DiskArmSimulator();
        x.idle(1);
        check.due(38, "utilization() at 1", x.utilization(), 0.0);
        x.submit(0, 0, 0);
        x.serve();
        check.due(38, "utilization() at 130", x.utilization(), 129.0 / 130.0);
        DiskArmSimulator y = new DiskArmSimulator();
        y.submit(0, 300, 0);
        y.serve();
        check.due(38, "utilization() without idling", y.utilization(), 1.0);
        DiskArmSimulator z = after(Pasts::behindLastClock);
        check.due(38, "utilization() at 100001", z.utilization(), 10.0 / 100001.0);
    }

    private static void noneFinished() {
        check.about("ArithmeticException if no request is finished");
        check.refused(39, "averageResponse() of none", NO_QUOTIENT, Pasts::none, DiskArmSimulator::averageResponse);
        check.refused(39, "averageResponse() of pending and cancelled ones", NO_QUOTIENT, x -> {
            Pasts.reads(x, 12);
            x.cancel(5);
            x.idle(100);
        }, DiskArmSimulator::averageResponse);
    }

    private static void responseOfZero() {
        check.about("Returns the average response time of all finished requests: the sum of the times from arrival to "
            + "finish, divided by the number of these requests, both converted to double.");
        DiskArmSimulator x = after(y -> Pasts.dirty(y, 1));
        check.due(39, "averageResponse() of one that was finished at once", x.averageResponse(), 0.0);
        x.submit(0, 0, 0);
        x.flush();
        check.due(39, "averageResponse() behind a flush", x.averageResponse(), 0.0);
    }

    private static void averageOfSome() {
        check.about("Returns the average response time of all finished requests: the sum of the times from arrival to "
            + "finish, divided by the number of these requests, both converted to double.");
        DiskArmSimulator x = new DiskArmSimulator();
        x.submit(0, 0, 0);
        x.submit(0, 1, 0);
        x.submit(0, 2, 0);
        x.submit(0, 3, 0);
        x.submit(0, 9, 0);
        x.cancel(4);
        x.serve();
        check.due(39, "averageResponse() of one", x.averageResponse(), 10.0);
        x.serve();
        check.due(39, "averageResponse() of two", x.averageResponse(), 15.0);
        x.serve();
        check.due(39, "averageResponse() of three", x.averageResponse(), 20.0);
        x.setWriteBack(true);
        x.submit(1, 9, 0);
        check.due(39, "averageResponse() of four", x.averageResponse(), 60.0 / 4.0);
        x.submit(1, 9, 0);
        x.submit(1, 9, 0);
        x.submit(1, 9, 0);
        check.due(39, "averageResponse() of seven", x.averageResponse(), 60.0 / 7.0);
    }

    private static void noneWithDeadline() {
        check.about("ArithmeticException if no request with a deadline is finished");
        check.refused(40, "lateShare() of none", NO_QUOTIENT, Pasts::none, DiskArmSimulator::lateShare);
        check.refused(40, "lateShare() without finished deadlines", NO_QUOTIENT, x -> {
            x.submit(0, 0, 0);
            x.submit(0, 1, 1);
            x.submit(0, 2, 1);
            x.serve();
            x.cancel(1);
        }, DiskArmSimulator::lateShare);
    }

    private static void shares() {
        check.about("Returns the number of finished requests that are late, divided by the number of finished requests "
            + "with a deadline, both converted to float.");
        DiskArmSimulator x = new DiskArmSimulator();
        x.submit(0, 0, 9);
        x.submit(0, 1, 20);
        x.submit(0, 2, 29);
        x.submit(0, 3, 0);
        x.submit(0, 4, 1);
        x.serve();
        check.due(40, "lateShare() of one, a tick late", x.lateShare(), 1.0f);
        x.serve();
        check.due(40, "lateShare() of two, one at its deadline", x.lateShare(), 0.5f);
        x.serve();
        check.due(40, "lateShare() of three", x.lateShare(), 2.0f / 3.0f);
        x.serve();
        check.due(40, "one without a deadline does not count", x.lateShare(), 2.0f / 3.0f);
        x.idle(500);
        check.due(40, "a pending one behind its deadline does not count", x.lateShare(), 2.0f / 3.0f);
        DiskArmSimulator y = new DiskArmSimulator();
        y.submit(0, 0, 10);
        y.serve();
        check.due(40, "lateShare() of one at its deadline", y.lateShare(), 0.0f);
    }

    private static void mostRequests() {
        check.about("There are at most 80 requests");
        DiskArmSimulator x = new DiskArmSimulator();
        for (int i = 0; i < 80; i++) {
            x.submit(0, 0, i % 3 == 0 ? 1 : 9999);
            x.serve();
        }
        // The first response is of 10 ticks, all others of 120.
        check.due(39, "averageResponse() of 80", x.averageResponse(), (10.0 + 79.0 * 120.0) / 80.0);
        check.due(40, "lateShare() of 80", x.lateShare(), 27.0f / 80.0f);
        check.due(38, "utilization()", x.utilization(), 1.0);
        totals("of 80", x, 0, 79 * 110, 800, 80);
        check.due(14, "accessesOf(0)", x.accessesOf(0), 80);
    }
}
