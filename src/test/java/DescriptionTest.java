import java.util.NoSuchElementException;

/** The sentences of the section "Description" that name no boundary case; the others have a ...BoundsTest. */
public final class DescriptionTest {
    private static final int SPARE_PLACES = 4;
    private static final int[] SECTORS = {12, 10, 8, 6};
    private static final int[] FIRST_BLOCKS = {0, 192, 352, 480};
    private static final int[] SECTOR_TICKS = {10, 12, 15, 20};
    private static final Check check = new Check();

    public static void main(String[] args) {
        divisionsRoundDown();
        revolutionAndSectors();
        numbersOfPlaces();
        seekCurve();
        partsOfAnAccess();
        numbersOfRequests();
        arrivalAndDeadline();
        servingAccessesThePlace();
        onlyPendingOnesAreChosen();
        upwardOnly();
        flushAccessesAll();
        itemsOfAText();
        check.end();
    }

    private static void divisionsRoundDown() {
        check.about("Divisions of ints are rounded down.");
        DiskArmSimulator x = new DiskArmSimulator();
        x.submit(0, 0, 199);
        x.submit(0, 0, 399);
        x.submit(0, 0, 599);
        x.submit(0, 0, 0);
        check.due(31, "199 / 200", x.bucket(0), 0);
        check.due(31, "399 / 200", x.bucket(1), 1);
        check.due(31, "599 / 200", x.bucket(2), 2);
        x.idle(999);
        check.due(31, "3 - 999 / 1000", x.bucket(3), 3);
        x.idle(1);
        check.due(31, "3 - 1000 / 1000", x.bucket(3), 2);
    }

    private static void revolutionAndSectors() {
        check.about("The disk needs 120 ticks for a revolution, so a sector takes 10, 12, 15 or 20 ticks, depending on "
            + "its zone.");
        for (int zone = 0; zone < 4; zone++) {
            DiskArmSimulator x = new DiskArmSimulator();
            x.submit(0, FIRST_BLOCKS[zone], 0);
            x.submit(0, FIRST_BLOCKS[zone], 0);
            x.serve();
            check.due(37, "total(2) of zone " + zone, x.total(2), SECTOR_TICKS[zone]);
            int first = x.clock();
            x.serve();
            check.due(25, "the same sector again in zone " + zone, x.clock(), first + 120);
        }
    }

    private static void numbersOfPlaces() {
        check.about("The places of the disk are all pairs of a cylinder and a sector; they are numbered from 0 by "
            + "cylinders and then by sectors, and there are 576 of them.");
        int place = 0;
        for (int cylinder = 0; cylinder < 64; cylinder++) {
            DiskArmSimulator x = new DiskArmSimulator();
            for (int i = 0; i < SPARE_PLACES; i++) {
                x.moveToSpare(i);
            }
            for (int sector = 0; sector < SECTORS[cylinder / 16]; sector++) {
                // The first four blocks stand for the spare places, as no other block is there.
                int block = place < 572 ? place : place - 572;
                if (place >= SPARE_PLACES) {
                    check.due(8, "placeOf(" + block + ")", x.placeOf(block), place);
                    check.due(9, "cylinderOf(" + block + ")", x.cylinderOf(block), cylinder);
                    check.due(10, "sectorOf(" + block + ")", x.sectorOf(block), sector);
                }
                place++;
            }
        }
        check.due(8, "the number of places", place, 576);
        DiskArmSimulator x = new DiskArmSimulator();
        for (int block = 0; block < SPARE_PLACES; block++) {
            check.due(8, "placeOf(" + block + ")", x.placeOf(block), block);
            check.due(9, "cylinderOf(" + block + ")", x.cylinderOf(block), 0);
            check.due(10, "sectorOf(" + block + ")", x.sectorOf(block), block);
        }
    }

    private static void seekCurve() {
        check.about("Otherwise, with d as the distance of the cylinders, it takes the settling time, plus the root factor "
            + "times the greatest number whose square is not greater than d, plus the linear factor times d.");
        DiskArmSimulator x = new DiskArmSimulator();
        x.setCurve(7, 3, 2);
        check.due(7, "d = 1", x.seekTime(20, 21), 7 + 3 + 2);
        check.due(7, "d = 3", x.seekTime(20, 17), 7 + 3 + 6);
        check.due(7, "d = 4", x.seekTime(20, 24), 7 + 6 + 8);
        check.due(7, "d = 35", x.seekTime(50, 15), 7 + 15 + 70);
        check.due(7, "d = 36", x.seekTime(50, 14), 7 + 18 + 72);
        check.due(7, "d = 63", x.seekTime(0, 63), 7 + 21 + 126);
    }

    private static void partsOfAnAccess() {
        check.about("To access a place means to seek to its cylinder, to wait until the angle at which its sector begins "
            + "is reached, possibly 0 ticks, and to transfer the sector.");
        DiskArmSimulator x = new DiskArmSimulator();
        x.submit(0, 20, 0);
        x.submit(0, 21, 0);
        x.submit(0, 300, 0);
        x.serve();
        parts(x, 15, 65, 10);
        check.due(16, "arm()", x.arm(), 1);
        x.serve();
        parts(x, 15, 65, 20);
        check.due(16, "arm()", x.arm(), 1);
        x.serve();
        // 55 ticks to cylinder 26, where the angle is then 35 and sector 8 begins at 96.
        parts(x, 70, 126, 32);
        check.due(16, "arm()", x.arm(), 26);
    }

    private static void parts(DiskArmSimulator x, int seeks, int waits, int transfers) {
        check.due(37, "total(0)", x.total(0), seeks);
        check.due(37, "total(1)", x.total(1), waits);
        check.due(37, "total(2)", x.total(2), transfers);
        check.due(15, "clock()", x.clock(), seeks + waits + transfers);
    }

    private static void numbersOfRequests() {
        check.about("There are at most 80 requests, numbered from 0 in the order in which they are submitted, and at most "
            + "12 of them are pending at the same time.");
        DiskArmSimulator x = new DiskArmSimulator();
        for (int i = 0; i < 80; i++) {
            check.due(19, "submit", x.submit(i % 2, i, 0), i);
            check.due(25, "serve", x.serve(), i);
        }
        check.throwing(19, "the submission of a request 80", IllegalStateException.class, () -> x.submit(0, 0, 0));
        DiskArmSimulator y = new DiskArmSimulator();
        for (int i = 0; i < 12; i++) {
            check.due(19, "submit", y.submit(0, 571 - i, 0), i);
        }
        check.throwing(19, "a thirteenth pending request", IllegalStateException.class, () -> y.submit(0, 0, 0));
        y.cancel(3);
        check.due(19, "submit after a cancellation", y.submit(0, 0, 0), 12);
    }

    private static void arrivalAndDeadline() {
        check.about("A request has a kind, 0 for reading or 1 for writing, a block, an arrival, which is the clock when it "
            + "is submitted, and possibly a deadline.");
        DiskArmSimulator x = new DiskArmSimulator();
        x.idle(100);
        x.submit(0, 0, 29);
        x.submit(1, 1, 40);
        x.submit(1, 2, 0);
        x.serveFor(1000);
        check.due(32, "finish(0)", x.finish(0), 130);
        check.due(33, "isLate(0)", x.isLate(0), true);
        check.due(32, "finish(1)", x.finish(1), 140);
        check.due(33, "isLate(1)", x.isLate(1), false);
        check.throwing(33, "isLate(2)", UnsupportedOperationException.class, () -> x.isLate(2));
        check.due(39, "averageResponse()", x.averageResponse(), (30.0 + 40.0 + 50.0) / 3.0);
    }

    private static void servingAccessesThePlace() {
        check.about("To serve a request means to access the place of its block; the request is finished at the clock "
            + "then.");
        DiskArmSimulator x = new DiskArmSimulator();
        x.submit(0, 20, 0);
        x.moveToSpare(20);
        int ticks = x.accessTime(20);
        x.serve();
        check.due(16, "arm() at the spare place", x.arm(), 63);
        check.due(14, "accessesOf(20)", x.accessesOf(20), 1);
        check.due(15, "clock()", x.clock(), ticks);
        check.due(32, "finish(0)", x.finish(0), ticks);
        check.due(30, "state(0)", x.state(0), 1);
    }

    private static void onlyPendingOnesAreChosen() {
        check.about("The policy chooses the next request among the pending ones");
        for (int policy = 0; policy <= 6; policy++) {
            DiskArmSimulator x = new DiskArmSimulator();
            x.setPolicy(policy);
            x.submit(0, 0, 9999);
            x.submit(0, 12, 9999);
            x.submit(0, 24, 9999);
            check.due(24, "next() of policy " + policy, x.next(), 0);
            x.cancel(0);
            check.due(24, "next() behind the cancelled one, policy " + policy, x.next(), 1);
            check.due(25, "serve(), policy " + policy, x.serve(), 1);
            check.due(24, "next() behind the finished one, policy " + policy, x.next(), 2);
            check.due(25, "serve(), policy " + policy, x.serve(), 2);
            check.throwing(24, "next(), policy " + policy, NoSuchElementException.class, x::next);
        }
    }

    private static void upwardOnly() {
        check.about("Policy 3 takes the one with the least distance among those whose cylinder is at least that of the "
            + "arm, and if there are none, the one with the lowest cylinder.");
        DiskArmSimulator x = new DiskArmSimulator();
        x.submit(0, 120, 0);
        x.serve();
        x.setPolicy(3);
        int[] cylinders = {15, 9, 12, 3, 5};
        for (int cylinder : cylinders) {
            x.submit(0, cylinder * 12, 0);
        }
        int[] due = {3, 1, 4, 5, 2};
        for (int request : due) {
            check.due(25, "serve() of policy 3", x.serve(), request);
        }
    }

    private static void flushAccessesAll() {
        check.about("A flush accesses all dirty blocks one after the other");
        DiskArmSimulator x = new DiskArmSimulator();
        x.setWriteBack(true);
        x.submit(1, 21, 0);
        x.submit(1, 20, 0);
        check.due(27, "flush()", x.flush(), 100);
        parts(x, 15, 65, 20);
        check.due(37, "total(3)", x.total(3), 2);
        check.due(14, "accessesOf(20)", x.accessesOf(20), 1);
        check.due(14, "accessesOf(21)", x.accessesOf(21), 1);
        check.due(28, "dirtyBlocks()", x.dirtyBlocks(), 0);
    }

    private static void itemsOfAText() {
        check.about("An item is an \"r\" for reading or a \"w\" for writing, a number of 1 to 3 digits for the block, and "
            + "possibly an \"@\" and a number of 1 to 4 digits for the allowance.");
        DiskArmSimulator x = new DiskArmSimulator();
        x.setWriteBack(true);
        Check.type(x, "r7,w12@30,r571@9999,w012,r12");
        check.due(21, "submitText()", x.submitText(), 5);
        check.due(22, "faultPosition()", x.faultPosition(), -1);
        int[] states = {0, 1, 0, 1, 1};
        for (int request = 0; request < states.length; request++) {
            check.due(30, "state(" + request + ")", x.state(request), states[request]);
        }
        check.due(28, "dirtyBlocks()", x.dirtyBlocks(), 1);
        check.due(33, "isLate(1)", x.isLate(1), false);
        check.throwing(33, "isLate(3)", UnsupportedOperationException.class, () -> x.isLate(3));
        x.serveFor(9999);
        check.due(14, "accessesOf(7)", x.accessesOf(7), 1);
        check.due(14, "accessesOf(571)", x.accessesOf(571), 1);
        check.due(33, "isLate(2)", x.isLate(2), false);
        check.throwing(33, "isLate(0)", UnsupportedOperationException.class, () -> x.isLate(0));
    }
}
