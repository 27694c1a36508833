/** The boundary cases of the disk: places, angles, seeks, accesses and spare places (promises 1 to 3 and 7 to 17). */
public final class DiskBoundsTest {
    private static final Class<IndexOutOfBoundsException> NO_INDEX = IndexOutOfBoundsException.class;
    private static final Class<IllegalArgumentException> NO_ARGUMENT = IllegalArgumentException.class;
    private static final Class<IllegalStateException> NO_STATE = IllegalStateException.class;
    private static final Class<UnsupportedOperationException> UNSUPPORTED = UnsupportedOperationException.class;
    private static final int[] FAR_OFF = {Integer.MIN_VALUE, -1000, 1000, Integer.MAX_VALUE};
    private static final Check check = new Check();

    public static void main(String[] args) {
        newDisk();
        curveInside();
        curveOutside();
        skewInside();
        skewOutside();
        sameCylinder();
        rootOfDistance();
        cylinders();
        zones();
        tracks();
        transfers();
        firstAndLastBlock();
        noSuchBlock();
        angleOfTime();
        angleOfSector();
        waits();
        armAtTheEnds();
        fourSpares();
        movedTwice();
        fifthSpare();
        orderOfRefusals();
        accessesOfPlaces();
        accessesOfSpares();
        leastAndGreatestAccessTime();
        check.end();
    }

    private static DiskArmSimulator fresh() {
        return new DiskArmSimulator();
    }

    private static void newDisk() {
        check.about("Creates a disk without requests.");
        DiskArmSimulator x = fresh();
        check.due(1, "pendingRequests()", x.pendingRequests(), 0);
        check.refused(1, "state(0) of a new disk", NO_INDEX, Pasts::none, y -> y.state(0));
        check.due(1, "the first request", x.submit(0, 0, 0), 0);
        check.due(1, "state(0) then", x.state(0), 0);
        check.throwing(1, "state(1) then", NO_INDEX, () -> x.state(1));
        check.about("Time is counted in ticks; the clock is 0 at first.");
        check.due(15, "clock()", fresh().clock(), 0);
        check.about("The arm is at a cylinder, at first at cylinder 0.");
        check.due(16, "arm()", fresh().arm(), 0);
    }

    private static void curve(int settling, int root, int linear, int one, int four, int most) {
        DiskArmSimulator x = fresh();
        x.setCurve(settling, root, linear);
        String what = "with setCurve(" + settling + ", " + root + ", " + linear + ")";
        check.due(2, "seekTime(0, 1) " + what, x.seekTime(0, 1), one);
        check.due(2, "seekTime(0, 4) " + what, x.seekTime(0, 4), four);
        check.due(2, "seekTime(0, 63) " + what, x.seekTime(0, 63), most);
    }

    private static void curveInside() {
        check.about("The settling time is from 0 to 50 and 10 at first, the root factor from 0 to 20 and 4 at first, "
            + "the linear factor from 0 to 9 and 1 at first.");
        DiskArmSimulator x = fresh();
        check.due(2, "seekTime(0, 1) at first", x.seekTime(0, 1), 10 + 4 + 1);
        check.due(2, "seekTime(0, 4) at first", x.seekTime(0, 4), 10 + 8 + 4);
        check.due(2, "seekTime(0, 63) at first", x.seekTime(0, 63), 10 + 28 + 63);
        curve(0, 0, 0, 0, 0, 0);
        curve(50, 0, 0, 50, 50, 50);
        curve(0, 20, 0, 20, 40, 140);
        curve(0, 0, 9, 9, 36, 567);
        curve(50, 20, 9, 79, 126, 757);
        curve(49, 19, 8, 76, 119, 686);
        curve(1, 1, 1, 3, 7, 71);
    }

    /** The other two numbers are right and new, so that a half-made change would be seen. */
    private static void curveOutside() {
        check.about("IllegalArgumentException if a number is out of range");
        int[][] wrong = {{-1, 5, 5}, {51, 5, 5}, {5, -1, 5}, {5, 21, 5}, {5, 5, -1}, {5, 5, 10}, {-1, -1, -1},
            {51, 21, 10}, {Integer.MIN_VALUE, 0, 0}, {0, Integer.MIN_VALUE, 0}, {0, 0, Integer.MIN_VALUE},
            {Integer.MAX_VALUE, 0, 0}, {0, Integer.MAX_VALUE, 0}, {0, 0, Integer.MAX_VALUE}};
        for (int[] w : wrong) {
            String what = "setCurve(" + w[0] + ", " + w[1] + ", " + w[2] + ")";
            check.refused(2, what, NO_ARGUMENT, Pasts::none, x -> x.setCurve(w[0], w[1], w[2]));
            check.refused(2, what, NO_ARGUMENT, Pasts::rich, x -> x.setCurve(w[0], w[1], w[2]));
        }
    }

    private static void skewInside() {
        check.about("The skew is from 0 to 40, and 0 at first.");
        DiskArmSimulator x = fresh();
        check.due(3, "setSkew(40)", x.setSkew(40), 0);
        check.due(3, "startAngle(12) with 40", x.startAngle(12), 40);
        check.due(3, "setSkew(39)", x.setSkew(39), 40);
        check.due(3, "startAngle(12) with 39", x.startAngle(12), 39);
        check.due(3, "setSkew(1)", x.setSkew(1), 39);
        check.due(3, "startAngle(12) with 1", x.startAngle(12), 1);
        check.due(3, "setSkew(0)", x.setSkew(0), 1);
        check.due(3, "startAngle(12) with 0", x.startAngle(12), 0);
        check.due(3, "setSkew(0) again", x.setSkew(0), 0);
    }

    private static void skewOutside() {
        check.about("IllegalArgumentException if the skew is out of range");
        for (int wrong : new int[] {-1, 41, Integer.MIN_VALUE, Integer.MAX_VALUE}) {
            check.refused(3, "setSkew(" + wrong + ")", NO_ARGUMENT, Pasts::none, x -> x.setSkew(wrong));
            check.refused(3, "setSkew(" + wrong + ")", NO_ARGUMENT, Pasts::rich, x -> x.setSkew(wrong));
        }
        DiskArmSimulator x = fresh();
        x.setSkew(17);
        check.throwing(3, "setSkew(41)", NO_ARGUMENT, () -> x.setSkew(41));
        check.due(3, "setSkew(2) behind it", x.setSkew(2), 17);
    }

    private static void sameCylinder() {
        check.about("A seek to the same cylinder takes 0 ticks.");
        DiskArmSimulator x = fresh();
        x.setCurve(50, 20, 9);
        for (int cylinder : new int[] {0, 1, 31, 62, 63}) {
            check.due(7, "seekTime to the same cylinder " + cylinder, x.seekTime(cylinder, cylinder), 0);
        }
        check.due(7, "seekTime(0, 1)", x.seekTime(0, 1), 79);
        check.due(7, "seekTime(63, 62)", x.seekTime(63, 62), 79);
        x.submit(0, 3, 0);
        x.serve();
        check.due(12, "no seek in an access at the arm's cylinder", x.total(0), 0);
    }

    private static void rootOfDistance() {
        check.about("plus the root factor times the greatest number whose square is not greater than d");
        DiskArmSimulator x = fresh();
        x.setCurve(0, 1, 0);
        int[][] roots = {{1, 1}, {2, 1}, {3, 1}, {4, 2}, {5, 2}, {8, 2}, {9, 3}, {10, 3}, {15, 3}, {16, 4}, {17, 4},
            {24, 4}, {25, 5}, {26, 5}, {35, 5}, {36, 6}, {37, 6}, {48, 6}, {49, 7}, {50, 7}, {62, 7}, {63, 7}};
        for (int[] pair : roots) {
            check.due(7, "root of the distance " + pair[0] + " upwards", x.seekTime(0, pair[0]), pair[1]);
            check.due(7, "root of the distance " + pair[0] + " downwards", x.seekTime(63, 63 - pair[0]), pair[1]);
        }
    }

    private static void cylinders() {
        check.about("There are 64 cylinders, numbered from 0, with one track each.");
        DiskArmSimulator x = fresh();
        check.due(7, "seekTime(0, 63)", x.seekTime(0, 63), 101);
        check.due(7, "seekTime(63, 0)", x.seekTime(63, 0), 101);
        check.due(7, "seekTime(63, 63)", x.seekTime(63, 63), 0);
        check.about("IndexOutOfBoundsException if one of the cylinders does not exist");
        int[][] wrong = {{-1, 0}, {0, -1}, {64, 63}, {63, 64}, {-1, -1}, {64, 64}, {-1, 64},
            {Integer.MIN_VALUE, 0}, {0, Integer.MAX_VALUE}, {Integer.MAX_VALUE, Integer.MIN_VALUE}};
        for (int[] w : wrong) {
            check.refused(7, "seekTime(" + w[0] + ", " + w[1] + ")", NO_INDEX, Pasts::rich,
                y -> y.seekTime(w[0], w[1]));
        }
    }

    private static void place(int block, int cylinder, int sector) {
        DiskArmSimulator x = fresh();
        check.due(8, "placeOf(" + block + ")", x.placeOf(block), block);
        check.due(9, "cylinderOf(" + block + ")", x.cylinderOf(block), cylinder);
        check.due(10, "sectorOf(" + block + ")", x.sectorOf(block), sector);
    }

    private static void zones() {
        check.about("A cylinder belongs to one of four zones of 16 cylinders: zone 0 has the cylinders 0 to 15, and so "
            + "on.");
        place(0, 0, 0);
        place(191, 15, 11);
        place(192, 16, 0);
        place(351, 31, 9);
        place(352, 32, 0);
        place(479, 47, 7);
        place(480, 48, 0);
        place(571, 63, 1);
    }

    private static void tracks() {
        check.about("The tracks of the zones 0 to 3 have 12, 10, 8 and 6 sectors.");
        place(11, 0, 11);
        place(12, 1, 0);
        place(179, 14, 11);
        place(180, 15, 0);
        place(201, 16, 9);
        place(202, 17, 0);
        place(341, 30, 9);
        place(342, 31, 0);
        place(359, 32, 7);
        place(360, 33, 0);
        place(471, 46, 7);
        place(472, 47, 0);
        place(485, 48, 5);
        place(486, 49, 0);
        place(569, 62, 5);
        place(570, 63, 0);
    }

    private static void transfers() {
        check.about("so a sector takes 10, 12, 15 or 20 ticks, depending on its zone");
        int[][] ticks = {{0, 10}, {191, 10}, {192, 12}, {351, 12}, {352, 15}, {479, 15}, {480, 20}, {571, 20}};
        for (int[] pair : ticks) {
            DiskArmSimulator x = fresh();
            x.submit(0, pair[0], 0);
            x.serve();
            check.due(37, "the transfer of block " + pair[0], x.total(2), pair[1]);
        }
        int[][] angles = {{1, 10}, {191, 110}, {193, 12}, {351, 108}, {353, 15}, {479, 105}, {481, 20}, {485, 100}};
        for (int[] pair : angles) {
            check.due(11, "startAngle(" + pair[0] + ")", fresh().startAngle(pair[0]), pair[1]);
        }
    }

    private static void firstAndLastBlock() {
        check.about("The blocks 0 to 571 are at the places with the same numbers.");
        for (int block : new int[] {0, 571}) {
            DiskArmSimulator x = fresh();
            check.due(8, "placeOf(" + block + ")", x.placeOf(block), block);
            check.due(9, "cylinderOf(" + block + ")", x.cylinderOf(block), block == 0 ? 0 : 63);
            check.due(10, "sectorOf(" + block + ")", x.sectorOf(block), block == 0 ? 0 : 1);
            check.due(11, "startAngle(" + block + ")", x.startAngle(block), block == 0 ? 0 : 20);
            check.due(12, "accessTime(" + block + ")", x.accessTime(block), block == 0 ? 10 : 160);
            check.due(14, "accessesOf(" + block + ")", x.accessesOf(block), 0);
            check.due(13, "moveToSpare(" + block + ")", x.moveToSpare(block), 572);
        }
    }

    private static void noSuchBlock() {
        check.about("IndexOutOfBoundsException if there is no such block");
        for (int block : new int[] {-1, 572, 575, 576, Integer.MIN_VALUE, Integer.MAX_VALUE}) {
            String of = "(" + block + ")";
            check.refused(8, "placeOf" + of, NO_INDEX, Pasts::rich, x -> x.placeOf(block));
            check.refused(9, "cylinderOf" + of, NO_INDEX, Pasts::rich, x -> x.cylinderOf(block));
            check.refused(10, "sectorOf" + of, NO_INDEX, Pasts::rich, x -> x.sectorOf(block));
            check.refused(11, "startAngle" + of, NO_INDEX, Pasts::rich, x -> x.startAngle(block));
            check.refused(12, "accessTime" + of, NO_INDEX, Pasts::rich, x -> x.accessTime(block));
            check.refused(13, "moveToSpare" + of, NO_INDEX, Pasts::rich, x -> x.moveToSpare(block));
            check.refused(14, "accessesOf" + of, NO_INDEX, Pasts::rich, x -> x.accessesOf(block));
        }
        for (int block : FAR_OFF) {
            check.throwing(8, "placeOf(" + block + ")", NO_INDEX, () -> fresh().placeOf(block));
        }
    }

    private static void timeAt(int clock, int block, int want) {
        DiskArmSimulator x = fresh();
        Pasts.idleTo(x, clock);
        check.due(12, "accessTime(" + block + ") at " + clock, x.accessTime(block), want);
        check.due(15, "the clock after it", x.clock(), clock);
    }

    private static void angleOfTime() {
        check.about("At a time t the angle of the disk is t modulo 120.");
        timeAt(119, 0, 1 + 10);
        timeAt(120, 0, 0 + 10);
        timeAt(121, 0, 119 + 10);
        timeAt(239, 0, 1 + 10);
        timeAt(240, 0, 0 + 10);
        timeAt(109, 11, 1 + 10);
        timeAt(110, 11, 0 + 10);
        timeAt(111, 11, 119 + 10);
        timeAt(100000, 4, 0 + 10);
        timeAt(100000, 3, 110 + 10);
    }

    private static void angleOfSector() {
        check.about("A sector begins at the angle that is its number times the ticks of a sector in its zone, plus the "
            + "cylinder times the skew, modulo 120.");
        DiskArmSimulator x = fresh();
        x.setSkew(1);
        check.due(11, "startAngle(119), 110 + 9", x.startAngle(119), 119);
        check.due(11, "startAngle(131), 110 + 10", x.startAngle(131), 0);
        check.due(11, "startAngle(143), 110 + 11", x.startAngle(143), 1);
        x.setSkew(40);
        check.due(11, "startAngle(24), 80", x.startAngle(24), 80);
        check.due(11, "startAngle(36), 120", x.startAngle(36), 0);
        check.due(11, "startAngle(570), 2520", x.startAngle(570), 0);
        check.due(11, "startAngle(571), 20 + 2520", x.startAngle(571), 20);
        x.setSkew(39);
        check.due(11, "startAngle(570), 2457", x.startAngle(570), 57);
        check.due(11, "startAngle(0) at cylinder 0", x.startAngle(0), 0);
        check.due(11, "startAngle(11) at cylinder 0", x.startAngle(11), 110);
    }

    /** Block 13 begins at the angle 10 of cylinder 1. */
    private static void waits() {
        check.about("to wait until the angle at which its sector begins is reached, possibly 0 ticks");
        int[][] settlingAndWait = {{9, 1}, {10, 0}, {11, 119}};
        for (int[] pair : settlingAndWait) {
            DiskArmSimulator x = fresh();
            x.setCurve(pair[0], 0, 0);
            int time = pair[0] + pair[1] + 10;
            check.due(12, "accessTime(13) after a seek of " + pair[0], x.accessTime(13), time);
            x.submit(0, 13, 0);
            x.serve();
            check.due(37, "the wait after a seek of " + pair[0], x.total(1), pair[1]);
            check.about("The clock is then the end of the transfer, and the arm stays at the cylinder.");
            check.due(15, "clock()", x.clock(), time);
            check.due(16, "arm()", x.arm(), 1);
        }
    }

    private static void armAtTheEnds() {
        check.about("Returns 0 to 63.");
        DiskArmSimulator x = fresh();
        x.submit(0, 570, 0);
        x.submit(0, 569, 0);
        x.submit(0, 0, 0);
        x.serve();
        check.due(16, "arm() at the last cylinder", x.arm(), 63);
        x.serve();
        check.due(16, "arm() at the last cylinder but one", x.arm(), 62);
        x.serve();
        check.due(16, "arm() at the first cylinder", x.arm(), 0);
    }

    private static void takeSpares(DiskArmSimulator x, int count) {
        for (int i = 0; i < count; i++) {
            x.moveToSpare(100 * i);
        }
    }

    private static void fourSpares() {
        check.about("A block can be moved to a spare place; the first one gets the place 572, the next one 573, and so "
            + "on.");
        DiskArmSimulator x = fresh();
        int[] blocks = {571, 0, 191, 192};
        for (int i = 0; i < 4; i++) {
            check.due(13, "moveToSpare(" + blocks[i] + ")", x.moveToSpare(blocks[i]), 572 + i);
        }
        for (int i = 0; i < 4; i++) {
            check.due(8, "placeOf(" + blocks[i] + ")", x.placeOf(blocks[i]), 572 + i);
            check.due(9, "cylinderOf(" + blocks[i] + ")", x.cylinderOf(blocks[i]), 63);
            check.due(10, "sectorOf(" + blocks[i] + ")", x.sectorOf(blocks[i]), 2 + i);
            check.due(11, "startAngle(" + blocks[i] + ")", x.startAngle(blocks[i]), 40 + 20 * i);
        }
        for (int block : new int[] {1, 190, 193, 570}) {
            check.due(8, "placeOf(" + block + "), not moved", x.placeOf(block), block);
        }
    }

    private static void movedTwice() {
        check.about("IllegalStateException if the block is at a spare place already");
        check.refused(13, "moveToSpare(33) again", NO_STATE, Pasts::rich, x -> x.moveToSpare(33));
        for (int count = 1; count <= 4; count++) {
            int taken = count;
            check.refused(13, "moveToSpare(0) again, with " + taken + " taken", NO_STATE, x -> takeSpares(x, taken),
                x -> x.moveToSpare(0));
        }
        check.about("It stays there.");
        DiskArmSimulator x = fresh();
        x.moveToSpare(5);
        check.throwing(13, "moveToSpare(5) again", NO_STATE, () -> x.moveToSpare(5));
        check.due(8, "placeOf(5)", x.placeOf(5), 572);
        check.due(13, "the next one loses no place", x.moveToSpare(6), 573);
    }

    private static void fifthSpare() {
        check.about("UnsupportedOperationException if all spare places are taken");
        DiskArmSimulator x = fresh();
        takeSpares(x, 3);
        check.due(13, "the fourth one", x.moveToSpare(500), 575);
        check.throwing(13, "the fifth one", UNSUPPORTED, () -> x.moveToSpare(501));
        check.due(8, "placeOf(501)", x.placeOf(501), 501);
        check.refused(13, "the fifth one", UNSUPPORTED, y -> takeSpares(y, 4), y -> y.moveToSpare(501));
    }

    private static void orderOfRefusals() {
        check.about("If a method can throw several exceptions, they are checked in the order in which they are listed.");
        check.refused(13, "no block while all are taken", NO_INDEX, x -> takeSpares(x, 4), x -> x.moveToSpare(572));
        check.refused(13, "no block while all are taken", NO_INDEX, x -> takeSpares(x, 4), x -> x.moveToSpare(-1));
        check.refused(13, "a moved one while all are taken", NO_STATE, x -> takeSpares(x, 4), x -> x.moveToSpare(300));
    }

    private static void accessesOfPlaces() {
        check.about("Returns how often the place of a block was accessed, for requests and for flushes.");
        DiskArmSimulator x = fresh();
        x.submit(0, 571, 0);
        x.submit(1, 571, 0);
        x.submit(0, 570, 0);
        check.due(14, "accessesOf(571) before", x.accessesOf(571), 0);
        x.serve();
        check.due(14, "accessesOf(571)", x.accessesOf(571), 1);
        x.serve();
        check.due(14, "accessesOf(571)", x.accessesOf(571), 2);
        x.cancel(2);
        check.due(14, "accessesOf(570), whose request was cancelled", x.accessesOf(570), 0);
        x.setWriteBack(true);
        x.submit(1, 571, 0);
        x.submit(0, 571, 0);
        check.due(14, "accessesOf(571) behind requests that were finished at once", x.accessesOf(571), 2);
        x.flush();
        check.due(14, "accessesOf(571) behind a flush", x.accessesOf(571), 3);
        x.moveToSpare(571);
        check.due(14, "accessesOf(571) at a place that was never accessed", x.accessesOf(571), 0);
        x.submit(1, 571, 0);
        x.flush();
        check.due(14, "accessesOf(571) at its new place", x.accessesOf(571), 1);
    }

    private static void accessesOfSpares() {
        check.about("The last four places, 572 to 575, are spare.");
        DiskArmSimulator x = fresh();
        takeSpares(x, 4);
        for (int i = 0; i < 4; i++) {
            x.submit(0, 100 * i, 0);
            x.serve();
            check.due(14, "accessesOf(" + 100 * i + ") behind a request", x.accessesOf(100 * i), 1);
            check.due(16, "arm()", x.arm(), 63);
        }
        x.setWriteBack(true);
        for (int i = 0; i < 4; i++) {
            x.submit(1, 100 * i, 0);
        }
        x.flush();
        for (int i = 0; i < 4; i++) {
            check.due(14, "accessesOf(" + 100 * i + ") behind a flush", x.accessesOf(100 * i), 2);
        }
        check.due(37, "total(3)", x.total(3), 8);
    }

    /** At 84 a seek of 757 ticks ends at 841, a tick behind the angle 0. */
    private static void leastAndGreatestAccessTime() {
        check.about("Returns the number of ticks that an access to the place of a block would take now.");
        DiskArmSimulator x = fresh();
        x.setCurve(50, 20, 9);
        check.due(12, "accessTime(0), a transfer alone", x.accessTime(0), 10);
        Pasts.idleTo(x, 83);
        check.due(12, "accessTime(570) without a wait", x.accessTime(570), 757 + 20);
        x.idle(1);
        check.due(12, "accessTime(570) with the longest wait", x.accessTime(570), 757 + 119 + 20);
        x.submit(0, 570, 0);
        x.serve();
        check.due(15, "clock()", x.clock(), 84 + 896);
    }
}
