/** Counts what was asked and what was answered wrongly, and says the latter with its promise. */
final class Check {
    interface Call {
        Object run();
    }

    private int asked;
    private int wrong;

    void due(int promise, String what, Object got, Object want) {
        asked++;
        if (!want.equals(got)) {
            wrong++;
            System.out.println("promise " + promise + ": " + what + " answered " + got + ", due is " + want);
        }
    }

    void throwing(int promise, String what, Class<? extends RuntimeException> want, Call call) {
        Object answer;
        try {
            answer = call.run();
        } catch (RuntimeException e) {
            answer = e.getClass();
        }
        due(promise, what, answer, want);
    }

    /** For calls without an answer, which a lambda can't give back. */
    void throwingVoid(int promise, String what, Class<? extends RuntimeException> want, Runnable call) {
        throwing(promise, what, want, () -> {
            call.run();
            return "nothing thrown";
        });
    }

    void end() {
        System.out.println(asked + " answers looked at, " + wrong + " wrong");
        System.exit(asked > 0 && wrong == 0 ? 0 : 1);
    }

    static int type(DiskArmSimulator disk, String text) {
        int length = 0;
        for (char sign : text.toCharArray()) {
            length = disk.appendCharacter(sign);
        }
        return length;
    }
}
