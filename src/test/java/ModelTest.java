import java.lang.reflect.InvocationTargetException;
import java.lang.reflect.Method;
import java.util.ArrayList;
import java.util.List;
import java.util.Random;

/** Long runs of calls, drawn with fixed seeds, on the class and on NaiveDisk: each pair of answers must be equal. */
public final class ModelTest {
    private static final int RUNS = 600;
    private static final int CALLS = 512;
    private static final int[] ODD_NUMBERS = {Integer.MIN_VALUE, -1, 0, 1, 80, 571, 572, 10000, Integer.MAX_VALUE};
    private static final String[] TEXTS = {"r1", "w2@", "r571@9999", "w5,w9,r5", "r572,r3@50", "r1,,", "w77@400,r8@9",
        "r12345", "w300@", "r4@12345", "r1,w2,r3,w4,r5,w6,r7,w8,r9,w0", "x", ""};

    private final Random random;
    private final boolean lateStart;
    private final int kindOfBlocks;
    private final DiskArmSimulator disk = new DiskArmSimulator();
    private final NaiveDisk naive = new NaiveDisk();
    private final List<String> told = new ArrayList<>();
    private int submitted;

    private ModelTest(long seed) {
        random = new Random(seed);
        lateStart = random.nextInt(4) == 0;
        kindOfBlocks = random.nextInt(3);
    }

    public static void main(String[] args) throws Exception {
        int runs = args.length > 0 ? Integer.parseInt(args[0]) : RUNS;
        for (int seed = 0; seed < runs; seed++) {
            if (!new ModelTest(seed).run()) {
                System.out.println("that was the run with the seed " + seed);
                System.exit(1);
            }
        }
        System.out.println(runs + " runs of " + CALLS + " calls, all answers equal");
    }

    private boolean run() throws Exception {
        // Some runs begin so late that the clock passes 100000 in them.
        int idleCalls = lateStart ? 90 + below(10) : 0;
        for (int i = 0; told.size() < CALLS; i++) {
            if (i < idleCalls ? !call("idle", 1000) : !drawAndCall()) {
                told.subList(0, Math.max(0, told.size() - 40)).clear();
                told.forEach(System.out::println);
                return false;
            }
        }
        return true;
    }

    private int below(int bound) {
        return random.nextInt(bound);
    }

    /** Mostly a number from the range, now and then one at its edges, outside, or far off. */
    private int from(int least, int greatest) {
        switch (below(40)) {
            case 0:
                return least - 1;
            case 1:
                return greatest + 1;
            case 2:
                return ODD_NUMBERS[below(ODD_NUMBERS.length)];
            case 3:
                return least;
            case 4:
                return greatest;
            default:
                return least + below(greatest - least + 1);
        }
    }

    private int block() {
        if (kindOfBlocks == 0) {
            return from(0, 571);
        }
        return kindOfBlocks == 1 ? from(0, 20) : 60 * below(10) + below(3);
    }

    private int allowance() {
        int kind = below(4);
        return kind == 0 ? 0 : kind == 1 ? from(1, 300) : kind == 2 ? from(100, 2000) : from(0, 9999);
    }

    private int request() {
        return from(0, Math.max(0, submitted));
    }

    private boolean drawAndCall() throws Exception {
        int draw = below(100);
        if (draw < 22) {
            return call("submit", below(30) == 0 ? from(0, 1) : below(2), block(), allowance());
        }
        if (draw < 34) {
            return call(below(3) == 0 ? "next" : "serve");
        }
        if (draw < 50) {
            return watch();
        }
        if (draw < 60) {
            return call(new String[] {"bestFinish", "canMeetDeadlines", "next", "flush"}[below(4)]);
        }
        if (draw < 64) {
            return call("bestRequest", from(0, 6));
        }
        if (draw < 68) {
            return call("cancel", request());
        }
        if (draw < 72) {
            return call("serveFor", below(3) == 0 ? from(1, 9999) : from(1, 400));
        }
        if (draw < 76) {
            return type();
        }
        if (draw < 80) {
            return call("idle", from(1, below(4) == 0 ? 1000 : 100));
        }
        return draw < 90 ? set() : askBlock();
    }

    private boolean type() throws Exception {
        String text = below(3) > 0 ? TEXTS[below(TEXTS.length)] : "";
        for (int i = 0; i < text.length(); i++) {
            if (!call("appendCharacter", (int) text.charAt(i))) {
                return false;
            }
        }
        for (int i = below(4); i > 0; i--) {
            if (!call("appendCharacter", below(9) == 0 ? from(33, 126) : (int) "rw@,0123456789".charAt(below(14)))) {
                return false;
            }
        }
        return call(below(3) == 0 ? "faultPosition" : "submitText") && call("faultPosition");
    }

    private boolean set() throws Exception {
        switch (below(8)) {
            case 0:
                return call("setCurve", from(0, 50), from(0, 20), from(0, 9));
            case 1:
                return call("setSkew", from(0, 40));
            case 2:
            case 3:
                return call("setPolicy", from(0, 6));
            case 4:
                return call("setBuckets", from(1, 999), below(2) == 0 ? from(1, 500) : from(1, 9999));
            case 5:
                return call("setWriteBack", below(2) == 0);
            case 6:
                return below(4) > 0 || call("moveToSpare", block());
            default:
                return call(below(3) == 0 ? "save" : "restore");
        }
    }

    private boolean askBlock() throws Exception {
        String[] names = {"placeOf", "cylinderOf", "sectorOf", "startAngle", "accessTime", "accessesOf"};
        if (below(10) == 0) {
            return call("seekTime", from(0, 63), from(0, 63));
        }
        return call(names[below(names.length)], block());
    }

    private boolean watch() throws Exception {
        String[] plain = {"clock", "arm", "isUpward", "dirtyBlocks", "pendingRequests", "faultPosition", "utilization",
            "averageResponse", "lateShare"};
        String[] ofRequests = {"state", "bucket", "finish", "isLate"};
        switch (below(4)) {
            case 0:
                return call("total", from(0, 3));
            case 1:
                return call(plain[below(plain.length)]);
            default:
                return call(ofRequests[below(ofRequests.length)], request());
        }
    }

    private boolean call(String name, Object... arguments) throws Exception {
        if (told.size() >= CALLS) {
            return true;
        }
        Object got = answer(disk, name, arguments);
        Object want = answer(naive, name, arguments);
        if (name.equals("submit") && want instanceof Integer) {
            submitted = Math.max(submitted, (Integer) want);
        }
        told.add(name + List.of(arguments) + " answered " + got + ", due is " + want);
        return got == null ? want == null : got.equals(want);
    }

    private static Object answer(Object target, String name, Object... arguments) throws Exception {
        for (Method method : target.getClass().getDeclaredMethods()) {
            if (method.getName().equals(name) && method.getParameterCount() == arguments.length) {
                try {
                    method.setAccessible(true);
                    return method.invoke(target, arguments);
                } catch (InvocationTargetException e) {
                    return e.getCause().getClass().getSimpleName();
                }
            }
        }
        throw new AssertionError("there is no method " + name);
    }
}
