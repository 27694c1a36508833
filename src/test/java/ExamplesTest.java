/** The four examples of the document. */
public final class ExamplesTest {
    private static final Check check = new Check();

    public static void main(String[] args) {
        nearestInTime();
        oneDirection();
        heldBackWrites();
        deadlinesThatCannotBeMet();
        check.end();
    }

    private static void nearestInTime() {
        DiskArmSimulator x = new DiskArmSimulator();
        check.due(19, "submit(0, 300, 0)", x.submit(0, 300, 0), 0);
        check.due(19, "submit(0, 20, 0)", x.submit(0, 20, 0), 1);
        check.due(12, "accessTime(300)", x.accessTime(300), 108);
        check.due(12, "accessTime(20)", x.accessTime(20), 90);
        check.due(4, "setPolicy(4)", x.setPolicy(4), 0);
        check.due(24, "next()", x.next(), 1);
        check.due(25, "serve()", x.serve(), 1);
        check.due(15, "clock()", x.clock(), 90);
        check.due(16, "arm()", x.arm(), 1);
    }

    private static void oneDirection() {
        DiskArmSimulator x = new DiskArmSimulator();
        check.due(4, "setPolicy(2)", x.setPolicy(2), 0);
        check.due(19, "submit(0, 400, 0)", x.submit(0, 400, 0), 0);
        check.due(25, "serve()", x.serve(), 0);
        check.due(19, "submit(0, 500, 0)", x.submit(0, 500, 0), 1);
        check.due(19, "submit(0, 390, 0)", x.submit(0, 390, 0), 2);
        check.due(25, "serve()", x.serve(), 1);
        check.due(25, "serve()", x.serve(), 2);
        check.due(17, "isUpward()", x.isUpward(), false);
    }

    private static void heldBackWrites() {
        DiskArmSimulator x = new DiskArmSimulator();
        check.due(6, "setWriteBack(true)", x.setWriteBack(true), false);
        check.due(19, "submit(1, 500, 0)", x.submit(1, 500, 0), 0);
        check.due(19, "submit(1, 20, 0)", x.submit(1, 20, 0), 1);
        check.due(15, "clock()", x.clock(), 0);
        check.due(27, "flush()", x.flush(), 300);
        check.due(16, "arm()", x.arm(), 51);
        check.due(37, "total(3)", x.total(3), 2);
    }

    private static void deadlinesThatCannotBeMet() {
        DiskArmSimulator x = new DiskArmSimulator();
        check.due(19, "submit(0, 300, 200)", x.submit(0, 300, 200), 0);
        check.due(19, "submit(0, 20, 90)", x.submit(0, 20, 90), 1);
        check.due(36, "canMeetDeadlines()", x.canMeetDeadlines(), false);
        check.due(34, "bestFinish()", x.bestFinish(), 210);
        check.due(35, "bestRequest(0)", x.bestRequest(0), 0);
        check.due(31, "bucket(1)", x.bucket(1), 0);
    }
}
