import java.util.function.Supplier;

/**
 * All that later calls show of an object, as one text: first what only looks, then what changes the object too. With
 * a past of some hundred calls an object stays within the 512 calls of the document.
 */
final class Afterwards {
    private static final int[] BLOCKS = {0, 20, 33, 130, 571};

    private final DiskArmSimulator x;
    private final StringBuilder told = new StringBuilder();

    private Afterwards(DiskArmSimulator x) {
        this.x = x;
    }

    static String of(DiskArmSimulator x) {
        Afterwards after = new Afterwards(x);
        after.look();
        after.useText();
        after.useDisk();
        return after.told.toString();
    }

    /** Without the text and its fault position, which a refused submitText changes. */
    static String ofDiskAlone(DiskArmSimulator x) {
        Afterwards after = new Afterwards(x);
        after.look();
        after.useDisk();
        return after.told.toString();
    }

    private Object ask(String name, Supplier<Object> call) {
        Object answer;
        try {
            answer = call.get();
        } catch (RuntimeException e) {
            answer = e.getClass().getSimpleName();
        }
        told.append(name).append('=').append(answer).append(' ');
        return answer;
    }

    private void look() {
        ask("clock", x::clock);
        ask("arm", x::arm);
        ask("up", x::isUpward);
        ask("pending", x::pendingRequests);
        ask("dirty", x::dirtyBlocks);
        for (int what = 0; what < 4; what++) {
            int sum = what;
            ask("total", () -> x.total(sum));
        }
        ask("utilization", x::utilization);
        ask("response", x::averageResponse);
        ask("late", x::lateShare);
        ask("next", x::next);
        ask("bestFinish", x::bestFinish);
        ask("best", () -> x.bestRequest(0));
        ask("canMeet", x::canMeetDeadlines);
        for (int block : BLOCKS) {
            ask("place", () -> x.placeOf(block));
            ask("angle", () -> x.startAngle(block));
            ask("time", () -> x.accessTime(block));
            ask("accesses", () -> x.accessesOf(block));
        }
        ask("seek", () -> x.seekTime(0, 1));
        ask("seek", () -> x.seekTime(0, 4));
        ask("seek", () -> x.seekTime(0, 63));
        lookAtRequests();
    }

    private void lookAtRequests() {
        for (int request = 0; request <= 80; request++) {
            int number = request;
            Object state = ask("state", () -> x.state(number));
            if (!(state instanceof Integer)) {
                return;
            }
            if (state.equals(0)) {
                ask("bucket", () -> x.bucket(number));
            } else if (state.equals(1) && number < 12) {
                ask("finish", () -> x.finish(number));
                ask("late", () -> x.isLate(number));
            }
        }
    }

    private void useText() {
        ask("fault", x::faultPosition);
        ask("append", () -> x.appendCharacter('7'));
        ask("submitText", x::submitText);
        ask("fault", x::faultPosition);
    }

    private void useDisk() {
        Object policy = ask("policy", () -> x.setPolicy(0));
        x.setPolicy((Integer) policy);
        Object skew = ask("skew", () -> x.setSkew(0));
        x.setSkew((Integer) skew);
        for (int i = 0; i < 13; i++) {
            ask("next", x::next);
            Object served = ask("serve", x::serve);
            ask("clock", x::clock);
            ask("arm", x::arm);
            if (!(served instanceof Integer)) {
                break;
            }
        }
        ask("up", x::isUpward);
        ask("writeBack", () -> x.setWriteBack(true));
        for (int i = 0; i < 9; i++) {
            int block = 60 * i;
            ask("write", () -> x.submit(1, block, 0));
        }
        ask("flush", x::flush);
        ask("dirty", x::dirtyBlocks);
        for (int i = 0; i < 5; i++) {
            int block = 33 + i;
            ask("spare", () -> x.moveToSpare(block));
        }
        for (int i = 0; i < 13; i++) {
            ask("read", () -> x.submit(0, 5, 100));
        }
        ask("idle", () -> x.idle(1000));
        ask("restore", x::restore);
        look();
    }
}
