/** What has happened to an object before a test asks it. */
final class Pasts {
    private Pasts() {
    }

    static void none(DiskArmSimulator x) {
    }

    /** Every part of the state differs from that of a new object, and something else is saved. */
    static void rich(DiskArmSimulator x) {
        x.setCurve(11, 3, 2);
        x.setSkew(7);
        x.setPolicy(2);
        x.setBuckets(50, 90);
        x.submit(0, 100, 2000);
        x.serve();
        x.submit(0, 50, 1);
        x.serve();
        x.save();
        x.submit(0, 70, 300);
        x.submit(1, 130, 0);
        x.submit(0, 400, 777);
        x.submit(0, 9, 120);
        x.submit(0, 60, 0);
        x.cancel(3);
        x.setWriteBack(true);
        x.submit(1, 20, 60);
        x.submit(1, 500, 0);
        x.moveToSpare(33);
        x.idle(13);
        Check.type(x, "r1,");
        try {
            x.submitText();
        } catch (IllegalArgumentException e) {
            // So the fault position is 3.
        }
        Check.type(x, "w5");
    }

    static void idleTo(DiskArmSimulator x, int clock) {
        int at = x.clock();
        while (at < clock) {
            at = x.idle(Math.min(1000, clock - at));
        }
    }

    /** At 100000 to the tick. */
    static void atLastClock(DiskArmSimulator x) {
        idleTo(x, 100000);
    }

    /**
     * At 100001 to the tick, by an access that begins at 99991 and takes 10 ticks: 99991 is 31 behind a whole turn,
     * and with a skew of 1 the sector 3 of cylinder 1 begins at 31.
     */
    static void behindLastClock(DiskArmSimulator x) {
        x.setCurve(0, 0, 0);
        x.setSkew(1);
        idleTo(x, 99991);
        x.submit(0, 15, 0);
        x.serve();
    }

    static void reads(DiskArmSimulator x, int count) {
        for (int i = 0; i < count; i++) {
            x.submit(0, 10 * i, 0);
        }
    }

    /** Dirty are the blocks 0, 3, 6 and so on. */
    static void dirty(DiskArmSimulator x, int count) {
        x.setWriteBack(true);
        for (int i = 0; i < count; i++) {
            x.submit(1, 3 * i, 0);
        }
    }

    /** The first twenty requests are cancelled, the others are finished, but the last one is pending. */
    static void requests(DiskArmSimulator x, int count) {
        x.setWriteBack(true);
        for (int i = 0; i < count - 1; i++) {
            if (i < 20) {
                x.submit(0, 3, 0);
                x.cancel(i);
            } else {
                x.submit(1, 9, 0);
            }
        }
        x.submit(0, 4, 0);
    }
}
