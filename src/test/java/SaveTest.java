/** Promises 41 and 42: a state that comes back. */
public final class SaveTest {
    private static final Check check = new Check();

    public static void main(String[] args) {
        nothingSaved();
        wholeState();
        savedAnew();
        cacheComesBack();
        textStays();
        numbersAreGivenAgain();
        check.end();
    }

    private static void nothingSaved() {
        DiskArmSimulator x = new DiskArmSimulator();
        x.idle(5);
        check.throwing(42, "restore of nothing", IllegalStateException.class, x::restore);
        check.due(42, "clock", x.clock(), 5);
        x.save();
        check.due(42, "restore", x.restore(), 5);
    }

    private static void wholeState() {
        DiskArmSimulator x = new DiskArmSimulator();
        x.setPolicy(2);
        x.setCurve(1, 2, 3);
        x.setSkew(4);
        x.setBuckets(5, 5000);
        x.submit(0, 100, 7);
        x.serve();
        x.submit(0, 50, 600);
        x.submit(0, 70, 0);
        x.submit(0, 120, 0);
        x.cancel(2);
        x.cancel(3);
        x.serve();
        x.submit(0, 80, 0);
        x.setWriteBack(true);
        x.submit(1, 9, 0);
        x.moveToSpare(33);
        x.submit(0, 33, 22);
        String before = tell(x);
        check.due(17, "the direction was reversed", x.isUpward(), false);
        x.save();
        disturb(x);
        check.due(42, "the disturbance is seen", tell(x).equals(before), false);
        check.due(42, "restore", x.restore(), x.clock());
        check.due(41, "the whole state is back", tell(x), before);
        disturb(x);
        x.restore();
        check.due(42, "it stays saved", tell(x), before);
        check.due(42, "the policy is back", x.setPolicy(2), 2);
        check.due(42, "the skew is back", x.setSkew(4), 4);
        check.due(42, "write-back is back", x.setWriteBack(true), true);
        check.due(42, "the next spare place is back", x.moveToSpare(34), 573);
    }

    private static void disturb(DiskArmSimulator x) {
        x.moveToSpare(9);
        x.submit(1, 10, 3);
        x.flush();
        x.cancel(x.next());
        x.serve();
        x.setWriteBack(false);
        x.setPolicy(4);
        x.setCurve(7, 7, 7);
        x.setSkew(17);
        x.setBuckets(400, 44);
        x.submit(0, 571, 5);
        x.submit(1, 1, 5);
        x.idle(123);
    }

    private static String tell(DiskArmSimulator x) {
        StringBuilder text = new StringBuilder();
        text.append(x.clock()).append(' ').append(x.arm()).append(' ').append(x.isUpward());
        text.append(' ').append(x.pendingRequests()).append(' ').append(x.dirtyBlocks()).append(' ').append(x.next());
        for (int i = 0; i < 4; i++) {
            text.append(' ').append(x.total(i));
        }
        for (int block = 0; block < 12; block++) {
            text.append(' ').append(x.accessTime(block * 10)).append('/').append(x.accessesOf(block * 10));
        }
        text.append(' ').append(x.placeOf(33)).append(' ').append(x.placeOf(9)).append(' ').append(x.startAngle(33));
        text.append(' ').append(x.seekTime(0, 1)).append(' ').append(x.seekTime(0, 30));
        for (int request = 0; request < 8; request++) {
            text.append(' ').append(tellRequest(x, request));
        }
        text.append(' ').append(x.averageResponse()).append(' ').append(x.lateShare());
        return text.toString();
    }

    private static String tellRequest(DiskArmSimulator x, int request) {
        try {
            int state = x.state(request);
            return state == 0 ? "bucket" + x.bucket(request) : state == 1 ? "finish" + x.finish(request) : "cancelled";
        } catch (IndexOutOfBoundsException e) {
            return "none";
        }
    }

    private static void savedAnew() {
        DiskArmSimulator x = new DiskArmSimulator();
        x.idle(1);
        x.save();
        x.idle(1);
        x.save();
        x.idle(1);
        check.due(41, "the latest save counts", x.restore(), 2);
        x.submit(0, 5, 0);
        x.save();
        x.serve();
        x.restore();
        check.due(41, "the request is pending again", x.state(0), 0);
        check.due(41, "pendingRequests", x.pendingRequests(), 1);
        check.due(41, "its place was not accessed", x.accessesOf(5), 0);
    }

    private static void cacheComesBack() {
        DiskArmSimulator x = new DiskArmSimulator();
        x.setWriteBack(true);
        x.setBuckets(100, 50);
        x.submit(1, 20, 0);
        x.submit(0, 7, 0);
        x.idle(50);
        x.save();
        x.flush();
        x.submit(1, 300, 0);
        x.submit(1, 301, 0);
        x.setBuckets(100, 9999);
        x.restore();
        check.due(42, "dirtyBlocks", x.dirtyBlocks(), 1);
        check.due(42, "bucket with the old aging time", x.bucket(1), 2);
        check.due(42, "flush of the old block", x.flush(), 40);
        check.due(42, "its cylinder", x.arm(), 1);
        x.restore();
        check.due(42, "a read of the old dirty block", x.state(x.submit(0, 20, 0)), 1);
        check.due(42, "a read of one that was dirty later", x.state(x.submit(0, 300, 0)), 0);
    }

    private static void textStays() {
        DiskArmSimulator x = new DiskArmSimulator();
        Check.type(x, "r1");
        x.save();
        Check.type(x, "2");
        x.restore();
        check.due(42, "the text stays", x.appendCharacter('x'), 4);
        check.throwing(21, "submitText", IllegalArgumentException.class, x::submitText);
        x.restore();
        check.due(42, "the fault position stays", x.faultPosition(), 3);
        check.due(42, "the text stays empty", x.appendCharacter('r'), 1);
    }

    private static void numbersAreGivenAgain() {
        DiskArmSimulator x = new DiskArmSimulator();
        x.submit(0, 5, 0);
        x.save();
        x.submit(0, 6, 10);
        x.serveFor(9999);
        x.restore();
        check.throwing(42, "state(1)", IndexOutOfBoundsException.class, () -> x.state(1));
        check.due(42, "submit", x.submit(0, 7, 0), 1);
        check.due(42, "state(1)", x.state(1), 0);
        check.due(42, "bucket(1)", x.bucket(1), 3);
        x.restore();
        check.due(42, "pendingRequests", x.pendingRequests(), 1);
    }
}
