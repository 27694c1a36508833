/** Promises 1 to 3 and 7 to 17: the disk, its curve and its places. */
public final class GeometryTest {
    private static final int[] WRONG_BLOCKS = {-1, 572, 575, Integer.MIN_VALUE, Integer.MAX_VALUE};
    private static final Class<IndexOutOfBoundsException> NO_INDEX = IndexOutOfBoundsException.class;
    private static final Check check = new Check();

    public static void main(String[] args) {
        newObject();
        curve();
        skew();
        places();
        angles();
        accessTimes();
        spares();
        accesses();
        wrongBlocks();
        check.end();
    }

    private static void newObject() {
        DiskArmSimulator x = new DiskArmSimulator();
        check.due(15, "clock", x.clock(), 0);
        check.due(16, "arm", x.arm(), 0);
        check.due(17, "isUpward", x.isUpward(), true);
        check.due(1, "pendingRequests", x.pendingRequests(), 0);
        check.due(1, "dirtyBlocks", x.dirtyBlocks(), 0);
        check.due(1, "faultPosition", x.faultPosition(), -1);
        for (int what = 0; what < 4; what++) {
            check.due(1, "total", x.total(what), 0);
        }
        check.throwing(1, "state(0)", NO_INDEX, () -> x.state(0));
        check.due(1, "accessesOf(0)", x.accessesOf(0), 0);
        check.due(1, "setPolicy", x.setPolicy(0), 0);
        check.due(1, "setSkew", x.setSkew(0), 0);
        check.due(1, "setWriteBack", x.setWriteBack(false), false);
        check.due(1, "flush", x.flush(), 0);
    }

    private static void curve() {
        DiskArmSimulator x = new DiskArmSimulator();
        seek(x, 0, 0, 0);
        seek(x, 63, 63, 0);
        seek(x, 0, 1, 10 + 4 + 1);
        seek(x, 9, 8, 10 + 4 + 1);
        seek(x, 10, 13, 10 + 4 + 3);
        seek(x, 13, 9, 10 + 8 + 4);
        seek(x, 0, 48, 10 + 24 + 48);
        seek(x, 49, 0, 10 + 28 + 49);
        seek(x, 0, 63, 10 + 28 + 63);
        for (int d = 1; d < 64; d++) {
            int root = 0;
            for (int r = 1; r * r <= d; r++) {
                root = r;
            }
            seek(x, 63, 63 - d, 10 + 4 * root + d);
        }
        x.setCurve(50, 20, 9);
        seek(x, 63, 0, 50 + 140 + 567);
        seek(x, 5, 5, 0);
        int[][] wrong = {{-1, 0, 0}, {51, 0, 0}, {0, -1, 0}, {0, 21, 0}, {0, 0, -1}, {0, 0, 10},
            {Integer.MAX_VALUE, 0, 0}, {0, Integer.MIN_VALUE, 0}, {0, 0, Integer.MAX_VALUE}};
        for (int[] w : wrong) {
            check.throwingVoid(2, "setCurve of a wrong number", IllegalArgumentException.class,
                () -> x.setCurve(w[0], w[1], w[2]));
        }
        seek(x, 63, 0, 757);
        x.setCurve(3, 0, 0);
        seek(x, 0, 40, 3);
        x.setCurve(0, 2, 0);
        seek(x, 0, 40, 12);
        x.setCurve(0, 0, 1);
        seek(x, 0, 40, 40);
        x.setCurve(0, 0, 0);
        seek(x, 0, 63, 0);
        int[][] cylinders = {{-1, 0}, {64, 0}, {0, -1}, {0, 64}, {64, 64}, {-1, -1},
            {Integer.MIN_VALUE, Integer.MAX_VALUE}, {0, Integer.MAX_VALUE}};
        for (int[] w : cylinders) {
            check.throwing(7, "seekTime", NO_INDEX, () -> x.seekTime(w[0], w[1]));
        }
    }

    private static void seek(DiskArmSimulator x, int from, int to, int want) {
        check.due(7, "seekTime(" + from + ", " + to + ")", x.seekTime(from, to), want);
    }

    private static void skew() {
        DiskArmSimulator x = new DiskArmSimulator();
        check.due(3, "setSkew(40)", x.setSkew(40), 0);
        check.due(3, "setSkew(7)", x.setSkew(7), 40);
        for (int wrong : new int[] {-1, 41, Integer.MIN_VALUE, Integer.MAX_VALUE}) {
            check.throwing(3, "setSkew(" + wrong + ")", IllegalArgumentException.class, () -> x.setSkew(wrong));
        }
        check.due(3, "setSkew(0)", x.setSkew(0), 7);
    }

    private static void places() {
        int[] sectors = {12, 10, 8, 6};
        int block = 0;
        for (int cylinder = 0; cylinder < 64; cylinder++) {
            // A new object for each cylinder, as an object is used for at most 512 calls.
            DiskArmSimulator x = new DiskArmSimulator();
            for (int sector = 0; sector < sectors[cylinder / 16] && block < 572; sector++) {
                check.due(8, "placeOf(" + block + ")", x.placeOf(block), block);
                check.due(9, "cylinderOf(" + block + ")", x.cylinderOf(block), cylinder);
                check.due(10, "sectorOf(" + block + ")", x.sectorOf(block), sector);
                check.due(11, "startAngle(" + block + ")", x.startAngle(block),
                    sector * (120 / sectors[cylinder / 16]));
                block++;
            }
        }
        check.due(9, "the number of blocks", block, 572);
    }

    private static void angles() {
        DiskArmSimulator x = new DiskArmSimulator();
        x.setSkew(40);
        check.due(11, "startAngle(12)", x.startAngle(12), 40);
        check.due(11, "startAngle(36)", x.startAngle(36), 0);
        check.due(11, "startAngle(35)", x.startAngle(35), (110 + 80) % 120);
        check.due(11, "startAngle(571)", x.startAngle(571), 20);
        x.setSkew(7);
        check.due(11, "startAngle(571)", x.startAngle(571), 101);
        check.due(11, "startAngle(201)", x.startAngle(201), (108 + 112) % 120);
        check.due(11, "startAngle(352)", x.startAngle(352), (32 * 7) % 120);
    }

    private static void accessTimes() {
        DiskArmSimulator x = new DiskArmSimulator();
        check.due(12, "accessTime(0)", x.accessTime(0), 10);
        check.due(12, "accessTime(11)", x.accessTime(11), 120);
        check.due(12, "accessTime(300)", x.accessTime(300), 108);
        check.due(12, "accessTime(20)", x.accessTime(20), 90);
        check.due(12, "accessTime(192), the first of zone 1", x.accessTime(192), 132);
        check.due(12, "accessTime(352), the first of zone 2", x.accessTime(352), 135);
        check.due(12, "accessTime(480), the first of zone 3", x.accessTime(480), 140);
        x.submit(0, 0, 0);
        x.serve();
        check.due(12, "accessTime(1) without a wait", x.accessTime(1), 10);
        check.due(12, "accessTime(0) after a whole turn", x.accessTime(0), 120);
        x.setCurve(0, 0, 0);
        check.due(12, "accessTime(13) with a seek of 0", x.accessTime(13), 10);
        x.setSkew(40);
        check.due(12, "accessTime(13) with skew", x.accessTime(13), 50);
        x.idle(1);
        check.due(12, "accessTime(13) a tick later", x.accessTime(13), 49);
        check.due(12, "accessTime leaves the clock", x.clock(), 11);
        check.due(12, "accessTime leaves the arm", x.arm(), 0);
    }

    private static void spares() {
        DiskArmSimulator x = new DiskArmSimulator();
        check.due(13, "moveToSpare(70)", x.moveToSpare(70), 572);
        check.due(8, "placeOf(70)", x.placeOf(70), 572);
        check.due(9, "cylinderOf(70)", x.cylinderOf(70), 63);
        check.due(10, "sectorOf(70)", x.sectorOf(70), 2);
        check.due(11, "startAngle(70)", x.startAngle(70), 40);
        check.due(12, "accessTime(70)", x.accessTime(70), 101 + 59 + 20);
        check.throwing(13, "moveToSpare(70) again", IllegalStateException.class, () -> x.moveToSpare(70));
        check.due(13, "moveToSpare(0)", x.moveToSpare(0), 573);
        check.due(13, "moveToSpare(571)", x.moveToSpare(571), 574);
        check.due(13, "moveToSpare(1)", x.moveToSpare(1), 575);
        check.due(8, "placeOf(0)", x.placeOf(0), 573);
        check.due(8, "placeOf(571)", x.placeOf(571), 574);
        check.due(8, "placeOf(1)", x.placeOf(1), 575);
        check.due(10, "sectorOf(1)", x.sectorOf(1), 5);
        check.due(11, "startAngle(1)", x.startAngle(1), 100);
        check.throwing(13, "a fifth one", UnsupportedOperationException.class, () -> x.moveToSpare(2));
        check.throwing(13, "an old one of the four", IllegalStateException.class, () -> x.moveToSpare(1));
        check.throwing(13, "no block while all are taken", NO_INDEX, () -> x.moveToSpare(572));
        check.due(8, "placeOf(2)", x.placeOf(2), 2);
        x.submit(0, 70, 0);
        x.serve();
        check.due(16, "the arm after an access at a spare place", x.arm(), 63);
    }

    private static void accesses() {
        DiskArmSimulator x = new DiskArmSimulator();
        x.submit(0, 70, 0);
        x.submit(1, 70, 0);
        x.submit(0, 71, 0);
        x.cancel(2);
        x.serve();
        check.due(14, "accessesOf(70)", x.accessesOf(70), 1);
        x.serve();
        check.due(14, "accessesOf(70)", x.accessesOf(70), 2);
        check.due(14, "accessesOf(71)", x.accessesOf(71), 0);
        x.moveToSpare(70);
        check.due(14, "accessesOf(70) at its new place", x.accessesOf(70), 0);
        x.setWriteBack(true);
        x.submit(1, 70, 0);
        check.due(14, "a held back write", x.accessesOf(70), 0);
        x.flush();
        check.due(14, "accessesOf(70) after a flush", x.accessesOf(70), 1);
    }

    private static void wrongBlocks() {
        DiskArmSimulator x = new DiskArmSimulator();
        for (int block : WRONG_BLOCKS) {
            check.throwing(8, "placeOf(" + block + ")", NO_INDEX, () -> x.placeOf(block));
            check.throwing(9, "cylinderOf(" + block + ")", NO_INDEX, () -> x.cylinderOf(block));
            check.throwing(10, "sectorOf(" + block + ")", NO_INDEX, () -> x.sectorOf(block));
            check.throwing(11, "startAngle(" + block + ")", NO_INDEX, () -> x.startAngle(block));
            check.throwing(12, "accessTime(" + block + ")", NO_INDEX, () -> x.accessTime(block));
            check.throwing(13, "moveToSpare(" + block + ")", NO_INDEX, () -> x.moveToSpare(block));
            check.throwing(14, "accessesOf(" + block + ")", NO_INDEX, () -> x.accessesOf(block));
        }
    }
}
