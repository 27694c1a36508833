import java.util.function.Consumer;

/** The boundary cases of request texts (promises 20 to 22). */
public final class TextBoundsTest {
    private static final Class<IllegalArgumentException> NO_ARGUMENT = IllegalArgumentException.class;
    private static final Class<IllegalStateException> NO_STATE = IllegalStateException.class;
    private static final Class<IndexOutOfBoundsException> NO_INDEX = IndexOutOfBoundsException.class;
    private static final String TWELVE_ITEMS = "r1,r2,r3,r4,r5,r6,r7,r8,r9,r0,r1,r2";
    private static final Check check = new Check();

    public static void main(String[] args) {
        characters();
        fortyCharacters();
        orderOfRefusals();
        emptyText();
        oneOrMoreItems();
        kinds();
        digitsOfBlocks();
        digitsOfAllowances();
        firstWrongCharacter();
        tooEarlyEnds();
        longestTexts();
        emptiedAlways();
        refusedTexts();
        latestFault();
        skippedBlocks();
        skippedForPending();
        skippedForAll();
        skippedForDirty();
        allowances();
        check.end();
    }

    private static DiskArmSimulator after(Consumer<DiskArmSimulator> past) {
        DiskArmSimulator x = new DiskArmSimulator();
        past.accept(x);
        return x;
    }

    private static DiskArmSimulator typed(String text) {
        return after(x -> Check.type(x, text));
    }

    private static String repeat(char sign, int count) {
        return String.valueOf(sign).repeat(count);
    }

    private static void characters() {
        check.about("IllegalArgumentException if character is not from 33 to 126");
        check.due(20, "appendCharacter(33)", new DiskArmSimulator().appendCharacter(33), 1);
        check.due(20, "appendCharacter(126)", new DiskArmSimulator().appendCharacter(126), 1);
        for (int wrong : new int[] {32, 127, 0, -1, 256 + 'r', 65536 + 'r', Integer.MIN_VALUE, Integer.MAX_VALUE}) {
            check.refused(20, "appendCharacter(" + wrong + ")", NO_ARGUMENT, Pasts::none,
                x -> x.appendCharacter(wrong));
            check.refused(20, "appendCharacter(" + wrong + ")", NO_ARGUMENT, Pasts::rich,
                x -> x.appendCharacter(wrong));
        }
        for (int code = 33; code <= 126; code++) {
            DiskArmSimulator x = new DiskArmSimulator();
            check.due(20, "appendCharacter(" + code + ")", x.appendCharacter(code), 1);
            boolean begins = code == 'r' || code == 'w';
            check.throwing(21, "submitText() of the character " + code, NO_ARGUMENT, x::submitText);
            check.due(22, "faultPosition() of the character " + code, x.faultPosition(), begins ? 1 : 0);
        }
    }

    private static void fortyCharacters() {
        check.about("There is a text of at most 40 characters, which is empty at first.");
        DiskArmSimulator x = new DiskArmSimulator();
        for (int length = 1; length <= 40; length++) {
            check.due(20, "appendCharacter('r')", x.appendCharacter('r'), length);
        }
        check.about("IllegalStateException if the text has 40 characters");
        check.throwing(20, "a forty-first", NO_STATE, () -> x.appendCharacter('r'));
        check.throwing(20, "a forty-first again", NO_STATE, () -> x.appendCharacter('r'));
        Consumer<DiskArmSimulator> full = y -> Check.type(y, TWELVE_ITEMS + ",r333");
        check.refused(20, "a forty-first", NO_STATE, full, y -> y.appendCharacter('r'));
        DiskArmSimulator y = after(full);
        check.throwing(20, "a forty-first", NO_STATE, () -> y.appendCharacter('x'));
        check.due(21, "submitText() behind it", y.submitText(), 12);
        check.due(22, "faultPosition() behind it", y.faultPosition(), -1);
        check.due(20, "appendCharacter('r') in the empty text", y.appendCharacter('r'), 1);
    }

    private static void orderOfRefusals() {
        check.about("If a method can throw several exceptions, they are checked in the order in which they are listed.");
        Consumer<DiskArmSimulator> full = y -> Check.type(y, repeat('r', 40));
        check.refused(20, "appendCharacter(32) behind 40", NO_ARGUMENT, full, y -> y.appendCharacter(32));
        check.refused(20, "appendCharacter(127) behind 40", NO_ARGUMENT, full, y -> y.appendCharacter(127));
    }

    /** A text without a fault has -1; all others are refused, and nothing of them is submitted. */
    private static void fault(String text, int position) {
        DiskArmSimulator x = typed(text);
        if (position == -1) {
            check.due(21, "submitText() of " + text, x.submitText() >= 0, true);
        } else {
            check.throwing(21, "submitText() of " + text, NO_ARGUMENT, x::submitText);
            check.throwing(21, "state(0) behind " + text, NO_INDEX, () -> x.state(0));
        }
        check.due(22, "faultPosition() of " + text, x.faultPosition(), position);
        check.due(21, "the length of the text behind " + text, x.appendCharacter('r'), 1);
    }

    private static void emptyText() {
        check.about("it is the length of the text if the text ends too early");
        fault("", 0);
        check.about("Returns the fault position, or -1 if the text had no fault or submitText has not been called.");
        DiskArmSimulator x = new DiskArmSimulator();
        check.due(22, "faultPosition() at first", x.faultPosition(), -1);
        x.appendCharacter('x');
        check.due(22, "faultPosition() before submitText", x.faultPosition(), -1);
    }

    private static void oneOrMoreItems() {
        check.about("A request text consists of one or more items with a \",\" between two of them.");
        fault("r1", -1);
        fault("r1,r2", -1);
        fault("r1,r2,r3", -1);
        fault(",", 0);
        fault(",r1", 0);
        fault("r1,", 3);
        fault("r1,,r2", 3);
        fault("r1r2", 2);
        fault("r1;r2", 2);
        fault("r1,r2,", 6);
    }

    private static void kinds() {
        check.about("An item is an \"r\" for reading or a \"w\" for writing");
        fault("r1", -1);
        fault("w1", -1);
        for (String wrong : new String[] {"q1", "s1", "v1", "x1", "R1", "W1", "1", "@1", "!1", "~1"}) {
            fault(wrong, 0);
            fault("r1," + wrong, 3);
        }
        fault("rw1", 1);
        fault("rr1", 1);
        DiskArmSimulator x = new DiskArmSimulator();
        x.setWriteBack(true);
        Check.type(x, "r1,w2,r2");
        check.due(21, "submitText()", x.submitText(), 3);
        check.due(30, "the read", x.state(0), 0);
        check.due(30, "the write", x.state(1), 1);
        check.due(30, "the read behind it", x.state(2), 1);
    }

    private static void digitsOfBlocks() {
        check.about("a number of 1 to 3 digits for the block");
        fault("r", 1);
        fault("r@5", 1);
        fault("r,r1", 1);
        fault("r5", -1);
        fault("r57", -1);
        fault("r571", -1);
        fault("r000", -1);
        fault("r0571", 4);
        fault("r0000", 4);
        fault("r57100", 4);
        fault("r/", 1);
        fault("r:", 1);
        fault("r5/", 2);
        fault("r5:", 2);
        fault("r-5", 1);
        fault("r5x", 2);
        fault("r57x", 3);
        fault("r571x", 4);
        fault("r09", -1);
    }

    private static void digitsOfAllowances() {
        check.about("and possibly an \"@\" and a number of 1 to 4 digits for the allowance");
        fault("r5@", 3);
        fault("r5@,", 3);
        fault("r5@@1", 3);
        fault("r5@x", 3);
        fault("r5@1", -1);
        fault("r5@12", -1);
        fault("r5@123", -1);
        fault("r5@9999", -1);
        fault("r5@0", -1);
        fault("r5@0000", -1);
        fault("r5@10000", 7);
        fault("r5@00001", 7);
        fault("r5@1@1", 4);
        fault("r5@9999@", 7);
        fault("r5@9999x", 7);
        fault("r5@1/", 4);
        fault("r5@1:", 4);
        fault("r571@9999,w571@9999", -1);
    }

    private static void firstWrongCharacter() {
        check.about("The fault position of a text is the index of the first character that cannot continue a request "
            + "text");
        fault("xr1", 0);
        fault("rx1x", 1);
        fault("r1x,x", 2);
        fault("r1,x,", 3);
        fault("r1,r2@3x@", 7);
        fault("r999,x", 5);
        fault(repeat('r', 40), 1);
        fault(TWELVE_ITEMS + ",r3,@", 39);
    }

    private static void tooEarlyEnds() {
        check.about("it is the length of the text if the text ends too early");
        fault("r", 1);
        fault("w", 1);
        fault("r1,", 3);
        fault("r1@", 3);
        fault("r123@", 5);
        fault("r1,w", 4);
        fault("r1@9999,", 8);
        fault("r1,w2,r3@", 9);
    }

    private static void longestTexts() {
        check.about("There is a text of at most 40 characters");
        check.due(20, "the length of the text", Check.type(new DiskArmSimulator(), TWELVE_ITEMS + ",r333"), 40);
        fault(TWELVE_ITEMS + ",r333", -1);
        fault(TWELVE_ITEMS + ",r3@4", -1);
        fault(TWELVE_ITEMS + ",r33,", 40);
        fault(TWELVE_ITEMS + ",r33@", 40);
        fault(TWELVE_ITEMS + ",r3,r", 40);
        fault(TWELVE_ITEMS + ",r33", -1);
        fault("r571@9999,r571@9999,r571@9999,r571@9999", -1);
    }

    private static void emptiedAlways() {
        check.about("The text is emptied also if an exception is thrown.");
        DiskArmSimulator x = typed("x");
        check.throwing(21, "submitText() of x", NO_ARGUMENT, x::submitText);
        check.due(22, "faultPosition()", x.faultPosition(), 0);
        Check.type(x, "r1");
        check.due(21, "submitText() of r1", x.submitText(), 1);
        check.due(22, "faultPosition()", x.faultPosition(), -1);
        check.throwing(21, "submitText() of nothing", NO_ARGUMENT, x::submitText);
        check.due(22, "faultPosition()", x.faultPosition(), 0);
        check.due(29, "pendingRequests()", x.pendingRequests(), 1);
        Check.type(x, "r2,w3");
        check.due(21, "submitText() of r2,w3", x.submitText(), 2);
        Check.type(x, "@5");
        check.throwing(21, "a text does not go on behind another one", NO_ARGUMENT, x::submitText);
        check.due(22, "faultPosition()", x.faultPosition(), 0);
    }

    private static void refusedTexts() {
        check.about("A call that throws an exception leaves the state unchanged, except that the text and its fault "
            + "position are treated as described.");
        for (String text : new String[] {"", "r1,w2,", "r1,w2,x", "w1@", "r1234", "r1,r2@12345"}) {
            for (boolean rich : new boolean[] {false, true}) {
                DiskArmSimulator x = after(rich ? TextBoundsTest::richWithoutText : Pasts::none);
                Check.type(x, text);
                check.throwing(21, "submitText() of " + text, NO_ARGUMENT, x::submitText);
                DiskArmSimulator twin = after(rich ? TextBoundsTest::richWithoutText : Pasts::none);
                check.due(21, "what comes after " + text, Afterwards.ofDiskAlone(x), Afterwards.ofDiskAlone(twin));
            }
        }
    }

    private static void richWithoutText(DiskArmSimulator x) {
        Pasts.rich(x);
        x.submitText();
    }

    private static void latestFault() {
        check.about("Returns the fault position of the text that was read by the latest call of submitText.");
        DiskArmSimulator x = typed("r1@");
        check.throwing(21, "submitText() of r1@", NO_ARGUMENT, x::submitText);
        Check.type(x, "r");
        check.due(22, "faultPosition() while a new text is typed", x.faultPosition(), 3);
        check.throwing(20, "appendCharacter(32)", NO_ARGUMENT, () -> x.appendCharacter(32));
        check.due(22, "faultPosition() behind a refused character", x.faultPosition(), 3);
        check.throwing(19, "submit(2, 0, 0)", NO_ARGUMENT, () -> x.submit(2, 0, 0));
        check.due(22, "faultPosition() behind a refused request", x.faultPosition(), 3);
        check.throwing(21, "submitText() of r", NO_ARGUMENT, x::submitText);
        check.due(22, "faultPosition() of r", x.faultPosition(), 1);
        Check.type(x, "r999");
        check.due(21, "submitText() of r999", x.submitText(), 0);
        check.due(22, "faultPosition() of a skipped item", x.faultPosition(), -1);
    }

    private static void skippedBlocks() {
        check.about("An item whose submission would throw an exception is skipped.");
        DiskArmSimulator x = typed("r571,r572,w999,w0");
        check.due(21, "submitText()", x.submitText(), 2);
        check.due(29, "pendingRequests()", x.pendingRequests(), 2);
        x.serve();
        check.due(14, "accessesOf(571)", x.accessesOf(571), 1);
        x.serve();
        check.due(14, "accessesOf(0)", x.accessesOf(0), 1);
        DiskArmSimulator y = typed("r572,w573@5");
        check.due(21, "submitText() of skipped items alone", y.submitText(), 0);
        check.throwing(30, "state(0)", NO_INDEX, () -> y.state(0));
    }

    private static void skippedForPending() {
        check.about("An item whose submission would throw an exception is skipped.");
        DiskArmSimulator x = after(y -> Pasts.reads(y, 10));
        Check.type(x, "r1,r2,r3,w4");
        check.due(21, "four items beside ten", x.submitText(), 2);
        check.due(29, "pendingRequests()", x.pendingRequests(), 12);
        Check.type(x, "r1");
        check.due(21, "one item beside twelve", x.submitText(), 0);
        check.due(22, "faultPosition()", x.faultPosition(), -1);
        x.cancel(11);
        Check.type(x, "r1");
        check.due(21, "one item beside eleven", x.submitText(), 1);
    }

    private static void skippedForAll() {
        check.about("An item whose submission would throw an exception is skipped.");
        DiskArmSimulator x = after(y -> Pasts.requests(y, 78));
        Check.type(x, "r1,r572,r2,r3");
        check.due(21, "three good items behind 78", x.submitText(), 2);
        check.due(30, "state(79)", x.state(79), 0);
        check.throwing(30, "state(80)", NO_INDEX, () -> x.state(80));
        Check.type(x, "w9");
        check.due(21, "one item behind 80", x.submitText(), 0);
    }

    private static void skippedForDirty() {
        check.about("An item whose submission would throw an exception is skipped.");
        DiskArmSimulator x = after(y -> Pasts.dirty(y, 7));
        Check.type(x, "w571,w570,w571,r570,w0,r571");
        check.due(21, "a ninth block among six items", x.submitText(), 5);
        check.due(28, "dirtyBlocks()", x.dirtyBlocks(), 8);
        check.due(30, "the write of the eighth block", x.state(7), 1);
        check.due(30, "its second write", x.state(8), 1);
        check.due(30, "the read of the block that stayed clean", x.state(9), 0);
        check.due(30, "the write of the first block", x.state(10), 1);
        check.due(30, "the read of the eighth block", x.state(11), 1);
        check.due(29, "pendingRequests()", x.pendingRequests(), 1);
    }

    private static void allowances() {
        check.about("items without an \"@\" have the allowance 0");
        DiskArmSimulator x = typed("r0,r1@1,r2@9999,r3@0,r4@0000,r5@0030");
        check.due(21, "submitText()", x.submitText(), 6);
        check.due(26, "serveFor(9999)", x.serveFor(9999), 6);
        check.throwing(33, "isLate of r0", UnsupportedOperationException.class, () -> x.isLate(0));
        check.due(33, "isLate of r1@1", x.isLate(1), true);
        check.due(33, "isLate of r2@9999", x.isLate(2), false);
        check.throwing(33, "isLate of r3@0", UnsupportedOperationException.class, () -> x.isLate(3));
        check.throwing(33, "isLate of r4@0000", UnsupportedOperationException.class, () -> x.isLate(4));
        check.due(33, "isLate of r5@0030, which ends at 60", x.isLate(5), true);
        DiskArmSimulator y = typed("r5@0060,r6@69");
        y.submitText();
        y.serveFor(9999);
        check.due(33, "isLate of r5@0060", y.isLate(0), false);
        check.due(33, "isLate of r6@69, which ends at 70", y.isLate(1), true);
    }
}
