/** Promises 37 to 40: sums, shares and averages. */
public final class StatisticsTest {
    private static final Class<ArithmeticException> NO_QUOTIENT = ArithmeticException.class;
    private static final Check check = new Check();

    public static void main(String[] args) {
        totals();
        utilization();
        responses();
        lateShares();
        check.end();
    }

    private static void total(DiskArmSimulator x, int seeks, int waits, int transfers, int accesses) {
        check.due(37, "total(0)", x.total(0), seeks);
        check.due(37, "total(1)", x.total(1), waits);
        check.due(37, "total(2)", x.total(2), transfers);
        check.due(37, "total(3)", x.total(3), accesses);
    }

    private static void totals() {
        DiskArmSimulator x = new DiskArmSimulator();
        for (int wrong : new int[] {-1, 4, Integer.MIN_VALUE, Integer.MAX_VALUE}) {
            check.throwing(37, "total(" + wrong + ")", IllegalArgumentException.class, () -> x.total(wrong));
        }
        x.submit(0, 300, 0);
        x.submit(0, 20, 0);
        x.serve();
        total(x, 56, 40, 12, 1);
        x.serve();
        total(x, 56 + 55, 40 + 37, 12 + 10, 2);
        x.idle(100);
        total(x, 111, 77, 22, 2);
        x.setWriteBack(true);
        x.submit(1, 21, 0);
        x.flush();
        total(x, 111, 77 + 20, 32, 3);
        x.submit(1, 21, 0);
        total(x, 111, 97, 32, 3);
    }

    private static void utilization() {
        DiskArmSimulator x = new DiskArmSimulator();
        check.throwing(38, "utilization at 0", NO_QUOTIENT, x::utilization);
        x.idle(20);
        check.due(38, "utilization after idling", x.utilization(), 0.0);
        x.submit(0, 2, 0);
        x.serve();
        check.due(38, "utilization", x.utilization(), 10.0 / 30.0);
        x.submit(0, 20, 0);
        x.serve();
        check.due(38, "utilization", x.utilization(), 70.0 / 90.0);
    }

    private static void responses() {
        DiskArmSimulator x = new DiskArmSimulator();
        check.throwing(39, "averageResponse of none", NO_QUOTIENT, x::averageResponse);
        x.submit(0, 0, 0);
        x.submit(0, 1, 0);
        x.submit(0, 2, 0);
        check.throwing(39, "averageResponse of pending ones", NO_QUOTIENT, x::averageResponse);
        x.cancel(1);
        check.throwing(39, "averageResponse of a cancelled one", NO_QUOTIENT, x::averageResponse);
        x.serve();
        check.due(39, "averageResponse", x.averageResponse(), 10.0);
        x.serve();
        check.due(39, "averageResponse", x.averageResponse(), 40.0 / 2.0);
        x.setWriteBack(true);
        x.submit(1, 2, 0);
        check.due(39, "one that was finished at once counts", x.averageResponse(), 40.0 / 3.0);
        x.submit(0, 4, 0);
        x.serve();
        check.due(39, "responses begin at the arrival", x.averageResponse(), 60.0 / 4.0);
    }

    private static void lateShares() {
        DiskArmSimulator x = new DiskArmSimulator();
        check.throwing(40, "lateShare of none", NO_QUOTIENT, x::lateShare);
        x.submit(0, 0, 0);
        x.submit(0, 1, 20);
        x.submit(0, 2, 29);
        x.submit(0, 3, 9999);
        x.submit(0, 4, 1);
        x.serve();
        check.throwing(40, "lateShare of one without a deadline", NO_QUOTIENT, x::lateShare);
        x.serve();
        check.due(40, "lateShare", x.lateShare(), 0.0f);
        x.serve();
        check.due(40, "lateShare", x.lateShare(), 0.5f);
        x.serve();
        check.due(40, "lateShare", x.lateShare(), 1.0f / 3.0f);
        x.cancel(4);
        check.due(40, "a cancelled one does not count", x.lateShare(), 1.0f / 3.0f);
        x.setWriteBack(true);
        x.submit(1, 2, 1);
        check.due(40, "one that was finished at once counts", x.lateShare(), 0.25f);
    }
}
