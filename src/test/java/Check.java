import java.util.function.Consumer;

/** Counts what was asked and what was answered wrongly, and says the latter with its promise. */
final class Check {
    interface Call {
        Object run();
    }

    private int asked;
    private int wrong;
    private String sentence = "";

    /** The sentence of the document that the next checks look at; it is told with every wrong answer. */
    void about(String words) {
        sentence = " [" + words + "]";
    }

    void due(int promise, String what, Object got, Object want) {
        asked++;
        if (!want.equals(got)) {
            wrong++;
            System.out.println("promise " + promise + sentence + ": " + what + " answered " + got + ", due is " + want);
        }
    }

    void throwing(int promise, String what, Class<? extends RuntimeException> want, Call call) {
        Object answer;
        try {
            answer = call.run();
        } catch (RuntimeException e) {
            answer = e.getClass();
        }
        due(promise, what, answer, want);
    }

    /** For calls without an answer, which a lambda can't give back. */
    void throwingVoid(int promise, String what, Class<? extends RuntimeException> want, Runnable call) {
        throwing(promise, what, want, () -> {
            call.run();
            return "nothing thrown";
        });
    }

    /**
     * The call throws, and an object that was asked for it answers all later calls like its twin: an object with the
     * same past that was not asked.
     */
    void refused(int promise, String what, Class<? extends RuntimeException> want, Consumer<DiskArmSimulator> past,
            Consumer<DiskArmSimulator> call) {
        DiskArmSimulator one = new DiskArmSimulator();
        past.accept(one);
        throwingVoid(promise, what, want, () -> call.accept(one));
        DiskArmSimulator twin = new DiskArmSimulator();
        past.accept(twin);
        due(promise, "what comes after " + what, Afterwards.of(one), Afterwards.of(twin));
    }

    void end() {
        System.out.println(asked + " answers looked at, " + wrong + " wrong");
        System.exit(asked > 0 && wrong == 0 ? 0 : 1);
    }

    static int type(DiskArmSimulator disk, String text) {
        int length = 0;
        for (char sign : text.toCharArray()) {
            length = disk.appendCharacter(sign);
        }
        return length;
    }
}
