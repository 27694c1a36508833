import java.util.List;
import java.util.function.Consumer;

/** The boundary cases of a state that is saved and restored (promises 41 and 42). */
public final class SaveBoundsTest {
    private static final Class<IllegalStateException> NO_STATE = IllegalStateException.class;
    private static final Check check = new Check();

    public static void main(String[] args) {
        nothingSaved();
        newObjectSaved();
        wholeStates();
        savedAnew();
        staysSaved();
        apartFromWhatFollows();
        withoutTheText();
        limitsComeBack();
        directionComesBack();
        clockComesBack();
        check.end();
    }

    private static DiskArmSimulator after(Consumer<DiskArmSimulator> past) {
        DiskArmSimulator x = new DiskArmSimulator();
        past.accept(x);
        return x;
    }

    private static void nothingSaved() {
        check.about("IllegalStateException if nothing was saved");
        check.refused(42, "restore() of a new object", NO_STATE, Pasts::none, DiskArmSimulator::restore);
        check.refused(42, "restore() when nothing was saved", NO_STATE, x -> {
            Pasts.reads(x, 3);
            Pasts.dirty(x, 2);
            x.serve();
        }, DiskArmSimulator::restore);
        DiskArmSimulator x = new DiskArmSimulator();
        check.throwing(42, "restore()", NO_STATE, x::restore);
        x.idle(4);
        x.save();
        x.idle(5);
        check.due(42, "restore() when it was saved", x.restore(), 4);
    }

    private static void newObjectSaved() {
        check.about("Returns the clock.");
        DiskArmSimulator x = new DiskArmSimulator();
        x.save();
        check.due(42, "restore() at once", x.restore(), 0);
        makeOther(x);
        check.due(42, "restore()", x.restore(), 0);
        DiskArmSimulator fresh = new DiskArmSimulator();
        fresh.save();
        check.due(42, "what a new object that was saved is like", Afterwards.ofDiskAlone(x),
            Afterwards.ofDiskAlone(fresh));
    }

    /** Changes every part of the state, but leaves the text alone. */
    private static void makeOther(DiskArmSimulator x) {
        x.setCurve(1, 1, 9);
        x.setSkew(23);
        x.setPolicy(2);
        x.setBuckets(3, 4);
        x.setWriteBack(true);
        x.submit(1, 7, 5);
        x.flush();
        x.submit(1, 130, 5);
        x.submit(1, 0, 0);
        x.submit(0, 400, 80);
        x.submit(0, 20, 3);
        x.serve();
        x.serve();
        x.moveToSpare(130);
        x.moveToSpare(0);
        x.submit(0, 571, 80);
        x.idle(55);
    }

    private static void wholeStates() {
        check.about("Saves the whole state, but not the text and its fault position, in place of what was saved before.");
        for (Consumer<DiskArmSimulator> past : pasts()) {
            DiskArmSimulator x = after(past);
            x.save();
            makeOtherAsFarAsPossible(x);
            x.restore();
            DiskArmSimulator twin = after(past);
            twin.save();
            check.due(41, "what comes after restore()", Afterwards.ofDiskAlone(x), Afterwards.ofDiskAlone(twin));
        }
    }

    private static List<Consumer<DiskArmSimulator>> pasts() {
        return List.of(Pasts::none, Pasts::rich, x -> Pasts.reads(x, 12), x -> Pasts.dirty(x, 8),
            x -> Pasts.requests(x, 80), Pasts::atLastClock, Pasts::behindLastClock, SaveBoundsTest::makeOther);
    }

    /** A full or a late object refuses some of it. */
    private static void makeOtherAsFarAsPossible(DiskArmSimulator x) {
        try {
            makeOther(x);
        } catch (IllegalStateException e) {
            x.setSkew(3);
        }
    }

    private static void savedAnew() {
        check.about("in place of what was saved before");
        DiskArmSimulator x = new DiskArmSimulator();
        x.submit(0, 0, 0);
        x.submit(0, 1, 0);
        x.save();
        x.serve();
        x.save();
        x.serve();
        check.due(41, "restore()", x.restore(), 10);
        check.due(41, "state(0)", x.state(0), 1);
        check.due(41, "state(1)", x.state(1), 0);
        makeOther(x);
        check.due(41, "restore() behind more requests", x.restore(), 10);
        check.throwing(41, "state(2)", IndexOutOfBoundsException.class, () -> x.state(2));
        check.due(41, "the next number", x.submit(0, 5, 0), 2);
        check.due(41, "its state", x.state(2), 0);
    }

    private static void staysSaved() {
        check.about("Restores the state as it was saved last. It stays saved.");
        DiskArmSimulator x = new DiskArmSimulator();
        x.idle(7);
        x.save();
        for (int i = 0; i < 3; i++) {
            x.idle(100);
            x.submit(0, 5, 0);
            x.serve();
            check.due(42, "restore()", x.restore(), 7);
            check.due(42, "restore() again", x.restore(), 7);
            check.due(42, "total(3)", x.total(3), 0);
        }
    }

    private static void apartFromWhatFollows() {
        check.about("Restores the state as it was saved last.");
        DiskArmSimulator x = after(Pasts::rich);
        x.submitText();
        x.save();
        x.restore();
        makeOther(x);
        x.restore();
        DiskArmSimulator twin = after(Pasts::rich);
        twin.submitText();
        twin.save();
        check.due(42, "what comes after a second restore()", Afterwards.ofDiskAlone(x), Afterwards.ofDiskAlone(twin));
    }

    private static void withoutTheText() {
        check.about("but not the text and its fault position");
        DiskArmSimulator x = new DiskArmSimulator();
        Check.type(x, "x");
        x.save();
        check.throwing(21, "submitText()", IllegalArgumentException.class, x::submitText);
        x.restore();
        check.due(42, "faultPosition() stays", x.faultPosition(), 0);
        check.due(42, "the text stays empty", x.appendCharacter('r'), 1);
        Check.type(x, "12");
        x.restore();
        check.due(42, "the text stays typed", x.appendCharacter('3'), 4);
        x.save();
        check.due(41, "the text stays where it is", x.submitText(), 1);
        x.restore();
        check.due(42, "its request is gone", x.pendingRequests(), 0);
        check.due(42, "faultPosition() stays", x.faultPosition(), -1);
        Check.type(x, "r".repeat(40));
        x.restore();
        check.throwing(42, "a full text stays full", NO_STATE, () -> x.appendCharacter('r'));
    }

    private static void limitsComeBack() {
        check.about("Restores the state as it was saved last.");
        DiskArmSimulator x = new DiskArmSimulator();
        x.save();
        Pasts.requests(x, 80);
        check.throwing(19, "an eighty-first", NO_STATE, () -> x.submit(0, 5, 0));
        x.restore();
        Pasts.reads(x, 12);
        check.due(42, "twelve behind restore()", x.pendingRequests(), 12);
        check.throwing(19, "a thirteenth", NO_STATE, () -> x.submit(0, 5, 0));
        x.restore();
        Pasts.dirty(x, 8);
        check.due(42, "eight dirty behind restore()", x.dirtyBlocks(), 8);
        check.throwing(6, "setWriteBack(false)", NO_STATE, () -> x.setWriteBack(false));
        x.restore();
        check.due(42, "write-back is off behind restore()", x.setWriteBack(false), false);
        for (int i = 0; i < 4; i++) {
            x.moveToSpare(i);
        }
        check.throwing(13, "a fifth spare place", UnsupportedOperationException.class, () -> x.moveToSpare(4));
        x.restore();
        check.due(42, "the first spare place is free again", x.moveToSpare(4), 572);
        check.due(42, "placeOf(0)", x.placeOf(0), 0);
        DiskArmSimulator full = after(y -> Pasts.requests(y, 80));
        full.save();
        full.serve();
        full.restore();
        check.throwing(42, "80 requests come back", NO_STATE, () -> full.submit(0, 5, 0));
        check.due(42, "state(79)", full.state(79), 0);
    }

    private static void directionComesBack() {
        check.about("Restores the state as it was saved last.");
        DiskArmSimulator x = new DiskArmSimulator();
        x.setPolicy(2);
        x.submit(0, 120, 0);
        x.serve();
        x.submit(0, 60, 0);
        x.save();
        x.serve();
        check.due(17, "isUpward() behind a turn", x.isUpward(), false);
        x.restore();
        check.due(42, "isUpward() behind restore()", x.isUpward(), true);
        x.serve();
        x.submit(0, 120, 0);
        x.save();
        x.serve();
        check.due(17, "isUpward() behind a second turn", x.isUpward(), true);
        x.restore();
        check.due(42, "isUpward() behind restore()", x.isUpward(), false);
    }

    private static void clockComesBack() {
        check.about("Returns the clock.");
        DiskArmSimulator x = after(Pasts::atLastClock);
        Pasts.reads(x, 2);
        x.save();
        x.serve();
        check.throwing(25, "serve() behind 100000", NO_STATE, x::serve);
        check.due(42, "restore()", x.restore(), 100000);
        check.due(25, "serve() at 100000 again", x.serve(), 0);
        DiskArmSimulator y = after(Pasts::behindLastClock);
        y.save();
        check.due(42, "restore() at 100001", y.restore(), 100001);
    }
}
