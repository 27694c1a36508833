/** Promises 20 to 22: request texts. */
public final class TextTest {
    private static final Check check = new Check();

    public static void main(String[] args) {
        appending();
        goodTexts();
        faults();
        fullTexts();
        skippedItems();
        itemsBuildOnEachOther();
        check.end();
    }

    private static void appending() {
        DiskArmSimulator x = new DiskArmSimulator();
        for (int wrong : new int[] {32, 127, 0, -1, 128, 65536 + 114, Integer.MIN_VALUE, Integer.MAX_VALUE}) {
            check.throwing(20, "appendCharacter(" + wrong + ")", IllegalArgumentException.class,
                () -> x.appendCharacter(wrong));
        }
        check.due(20, "appendCharacter(33)", x.appendCharacter(33), 1);
        check.due(20, "appendCharacter(126)", x.appendCharacter(126), 2);
        for (int i = 3; i <= 40; i++) {
            check.due(20, "appendCharacter", x.appendCharacter('r'), i);
        }
        check.throwing(20, "a forty-first", IllegalStateException.class, () -> x.appendCharacter('r'));
        check.throwing(20, "a wrong forty-first", IllegalArgumentException.class, () -> x.appendCharacter(32));
        check.due(22, "faultPosition before any submitText", x.faultPosition(), -1);
        check.throwing(21, "submitText", IllegalArgumentException.class, x::submitText);
        check.due(22, "faultPosition", x.faultPosition(), 0);
        check.due(20, "the text is empty afterwards", x.appendCharacter('r'), 1);
    }

    private static void goodTexts() {
        DiskArmSimulator x = new DiskArmSimulator();
        Check.type(x, "r5,w300@99,r007@0600,r1@0");
        check.due(21, "submitText", x.submitText(), 4);
        check.due(22, "faultPosition", x.faultPosition(), -1);
        check.due(29, "pendingRequests", x.pendingRequests(), 4);
        check.due(31, "bucket without a deadline", x.bucket(0), 3);
        check.due(31, "bucket with the allowance 99", x.bucket(1), 0);
        x.idle(1);
        check.due(31, "bucket with the allowance 600", x.bucket(2), 2);
        check.due(31, "bucket with the allowance 0", x.bucket(3), 3);
        x.setPolicy(0);
        x.serve();
        check.due(14, "accessesOf(5)", x.accessesOf(5), 1);
        x.serve();
        check.due(14, "accessesOf(300)", x.accessesOf(300), 1);
        x.serve();
        check.due(14, "accessesOf(7)", x.accessesOf(7), 1);
        check.throwing(21, "the text was emptied", IllegalArgumentException.class, x::submitText);
        check.due(22, "faultPosition of the empty text", x.faultPosition(), 0);
    }

    private static void faults() {
        Object[][] texts = {{"", 0}, {"x", 0}, {"R1", 0}, {",", 0}, {"1", 0}, {"@", 0}, {"r", 1}, {"w", 1}, {"rr", 1},
            {"r,", 1}, {"r@1", 1}, {"r-1", 1}, {"r1", -1}, {"r12", -1}, {"r123", -1}, {"r1234", 4}, {"r1x", 2},
            {"r1@", 3}, {"r1@x", 3}, {"r1@,", 3}, {"r1@1", -1}, {"r1@1234", -1}, {"r1@12345", 7}, {"r1@1@", 4},
            {"r1@1r", 4}, {"r1,", 3}, {"r1,,", 3}, {"r1,r", 4}, {"r1,w2", -1}, {"r1,w2,", 6}, {"r1w2", 2},
            {"r1,w2@3,r4@", 11}, {"r000", -1}, {"r0@0000", -1}, {"r999@9999", -1}, {"r1/", 2}, {"r1:", 2}};
        DiskArmSimulator x = null;
        for (int i = 0; i < texts.length; i++) {
            // A new object now and then keeps the requests under their limit; between, faults follow one another.
            if (i % 5 == 0) {
                x = new DiskArmSimulator();
            }
            expect(x, (String) texts[i][0], (Integer) texts[i][1]);
        }
    }

    private static void expect(DiskArmSimulator x, String text, int fault) {
        int pending = x.pendingRequests();
        Check.type(x, text);
        if (fault == -1) {
            x.submitText();
        } else {
            check.throwing(21, "submitText of " + text, IllegalArgumentException.class, x::submitText);
            check.due(21, "a text with a fault submits nothing: " + text, x.pendingRequests(), pending);
        }
        check.due(22, "faultPosition of " + text, x.faultPosition(), fault);
    }

    private static void fullTexts() {
        DiskArmSimulator x = new DiskArmSimulator();
        check.due(20, "a full text", Check.type(x, "r1,r2,r3,r4,r5,r6,r7,r8,r9,r0,r1,r2,r333"), 40);
        check.due(21, "thirteen items, room for twelve", x.submitText(), 12);
        check.due(22, "faultPosition", x.faultPosition(), -1);
        DiskArmSimulator y = new DiskArmSimulator();
        check.due(20, "a full text", Check.type(y, "r1,r2,r3,r4,r5,r6,r7,r8,r9,r0,r1,r2,r3,r"), 40);
        check.throwing(21, "it ends too early", IllegalArgumentException.class, y::submitText);
        check.due(22, "faultPosition", y.faultPosition(), 40);
        Check.type(y, "r1,r2,r3,r4,r5,r6,r7,r8,r9,r0,r1,r2,r33,");
        check.throwing(21, "it ends too early", IllegalArgumentException.class, y::submitText);
        check.due(22, "faultPosition", y.faultPosition(), 40);
        Check.type(y, "r1,r2,r3,r4,r5,r6,r7,r8,r9,r0,r1,r2,r3,@");
        check.throwing(21, "its last character is wrong", IllegalArgumentException.class, y::submitText);
        check.due(22, "faultPosition", y.faultPosition(), 39);
        check.due(29, "pendingRequests", y.pendingRequests(), 0);
    }

    private static void skippedItems() {
        DiskArmSimulator x = new DiskArmSimulator();
        Check.type(x, "r572,w571,r999@5,r0");
        check.due(21, "submitText", x.submitText(), 2);
        check.due(22, "skipped items are no faults", x.faultPosition(), -1);
        check.due(29, "pendingRequests", x.pendingRequests(), 2);
        check.due(30, "state(1)", x.state(1), 0);
        check.throwing(30, "state(2)", IndexOutOfBoundsException.class, () -> x.state(2));
        Check.type(x, "r999");
        check.due(21, "submitText of a skipped item alone", x.submitText(), 0);
    }

    private static void itemsBuildOnEachOther() {
        DiskArmSimulator x = new DiskArmSimulator();
        x.setWriteBack(true);
        Check.type(x, "r9,w9,r9,w1,w2,w3,w4,w5,w6,w7,w8,w9,r8");
        check.due(21, "submitText", x.submitText(), 12);
        check.due(28, "dirtyBlocks", x.dirtyBlocks(), 8);
        check.due(30, "a read before the write", x.state(0), 0);
        check.due(30, "a read behind the write", x.state(2), 1);
        check.due(29, "only clean reads are pending", x.pendingRequests(), 2);
    }
}
