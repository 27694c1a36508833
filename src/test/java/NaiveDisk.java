import java.util.ArrayList;
import java.util.Comparator;
import java.util.List;
import java.util.NoSuchElementException;
import java.util.TreeSet;
import java.util.function.Supplier;
import java.util.regex.Matcher;
import java.util.regex.Pattern;
import java.util.stream.Collectors;

/**
 * The document read a second time, as literally as can be and without a thought for cost: every tick is counted, every
 * order is written down. ModelTest compares the class with it.
 */
final class NaiveDisk {
    private static final int[] SECTORS = {12, 10, 8, 6};
    private static final String ITEM = "([rw])(\\d{1,3})(?:@(\\d{1,4}))?";
    private static final Pattern TEXT = Pattern.compile(ITEM + "(?:," + ITEM + ")*");

    /** The cylinder and the sector of each place. */
    private static final List<int[]> PLACES = new ArrayList<>();

    static {
        for (int cylinder = 0; cylinder < 64; cylinder++) {
            for (int sector = 0; sector < SECTORS[cylinder / 16]; sector++) {
                PLACES.add(new int[] {cylinder, sector});
            }
        }
    }

    private static final class Item {
        int number;
        int block;
        int arrival;
        int deadline;
        int finish;
        int state;

        Item copy() {
            Item other = new Item();
            other.number = number;
            other.block = block;
            other.arrival = arrival;
            other.deadline = deadline;
            other.finish = finish;
            other.state = state;
            return other;
        }

        boolean hasDeadline() {
            return deadline > 0;
        }
    }

    private static final class Everything {
        int settling = 10;
        int root = 4;
        int linear = 1;
        int skew;
        int policy;
        boolean up = true;
        int width = 200;
        int aging = 1000;
        boolean writeBack;
        int clock;
        int arm;
        List<Integer> spares = new ArrayList<>();
        TreeSet<Integer> dirty = new TreeSet<>();
        List<Item> items = new ArrayList<>();
        int[] accesses = new int[576];
        int[] totals = new int[4];

        Everything copy() {
            Everything other = new Everything();
            other.settling = settling;
            other.root = root;
            other.linear = linear;
            other.skew = skew;
            other.policy = policy;
            other.up = up;
            other.width = width;
            other.aging = aging;
            other.writeBack = writeBack;
            other.clock = clock;
            other.arm = arm;
            other.spares = new ArrayList<>(spares);
            other.dirty = new TreeSet<>(dirty);
            other.items = items.stream().map(Item::copy).collect(Collectors.toList());
            other.accesses = accesses.clone();
            other.totals = totals.clone();
            return other;
        }
    }

    private Everything s = new Everything();
    private Everything kept;
    private String text = "";
    private int fault = -1;

    private static void refuseIf(boolean refused, Supplier<RuntimeException> reason) {
        if (refused) {
            throw reason.get();
        }
    }

    void setCurve(int settling, int root, int linear) {
        refuseIf(settling < 0 || settling > 50 || root < 0 || root > 20 || linear < 0 || linear > 9,
            IllegalArgumentException::new);
        s.settling = settling;
        s.root = root;
        s.linear = linear;
    }

    int setSkew(int skew) {
        refuseIf(skew < 0 || skew > 40, IllegalArgumentException::new);
        int old = s.skew;
        s.skew = skew;
        return old;
    }

    int setPolicy(int policy) {
        refuseIf(policy < 0 || policy > 6, IllegalArgumentException::new);
        int old = s.policy;
        s.policy = policy;
        return old;
    }

    void setBuckets(int width, int aging) {
        refuseIf(width < 1 || width > 999 || aging < 1 || aging > 9999, IllegalArgumentException::new);
        s.width = width;
        s.aging = aging;
    }

    boolean setWriteBack(boolean on) {
        refuseIf(!on && !s.dirty.isEmpty(), IllegalStateException::new);
        boolean old = s.writeBack;
        s.writeBack = on;
        return old;
    }

    int seekTime(int from, int to) {
        refuseIf(from < 0 || from > 63 || to < 0 || to > 63, IndexOutOfBoundsException::new);
        int d = Math.abs(from - to);
        return d == 0 ? 0 : s.settling + s.root * (int) Math.floor(Math.sqrt(d)) + s.linear * d;
    }

    int placeOf(int block) {
        refuseIf(block < 0 || block > 571, IndexOutOfBoundsException::new);
        return s.spares.contains(block) ? 572 + s.spares.indexOf(block) : block;
    }

    int cylinderOf(int block) {
        return PLACES.get(placeOf(block))[0];
    }

    int sectorOf(int block) {
        return PLACES.get(placeOf(block))[1];
    }

    private int transferOf(int block) {
        return 120 / SECTORS[cylinderOf(block) / 16];
    }

    int startAngle(int block) {
        return (sectorOf(block) * transferOf(block) + cylinderOf(block) * s.skew) % 120;
    }

    /** The seek, the wait and the transfer of an access that begins at a cylinder and a time. */
    private int[] parts(int block, int cylinder, int time) {
        int seek = seekTime(cylinder, cylinderOf(block));
        int wait = 0;
        int angle = startAngle(block);
        while ((time + seek + wait) % 120 != angle) {
            wait++;
        }
        return new int[] {seek, wait, transferOf(block)};
    }

    private static int sum(int[] parts) {
        return parts[0] + parts[1] + parts[2];
    }

    int accessTime(int block) {
        return sum(parts(block, s.arm, s.clock));
    }

    private void access(int block) {
        int[] parts = parts(block, s.arm, s.clock);
        s.clock += sum(parts);
        s.arm = cylinderOf(block);
        for (int i = 0; i < 3; i++) {
            s.totals[i] += parts[i];
        }
        s.totals[3]++;
        s.accesses[placeOf(block)]++;
    }

    int moveToSpare(int block) {
        refuseIf(block < 0 || block > 571, IndexOutOfBoundsException::new);
        refuseIf(s.spares.contains(block), IllegalStateException::new);
        refuseIf(s.spares.size() == 4, UnsupportedOperationException::new);
        s.spares.add(block);
        return placeOf(block);
    }

    int accessesOf(int block) {
        return s.accesses[placeOf(block)];
    }

    int clock() {
        return s.clock;
    }

    int arm() {
        return s.arm;
    }

    boolean isUpward() {
        return s.up;
    }

    int idle(int ticks) {
        refuseIf(ticks < 1 || ticks > 1000, IllegalArgumentException::new);
        refuseIf(s.clock + ticks > 100000, IllegalStateException::new);
        s.clock += ticks;
        return s.clock;
    }

    private List<Item> pending() {
        return s.items.stream().filter(item -> item.state == 0).collect(Collectors.toList());
    }

    int submit(int kind, int block, int allowance) {
        refuseIf(kind < 0 || kind > 1 || allowance < 0 || allowance > 9999, IllegalArgumentException::new);
        refuseIf(block < 0 || block > 571, IndexOutOfBoundsException::new);
        TreeSet<Integer> dirty = new TreeSet<>(s.dirty);
        if (s.writeBack && kind == 1) {
            dirty.add(block);
        }
        refuseIf(s.items.size() == 80 || pending().size() == 12 || dirty.size() > 8, IllegalStateException::new);
        s.dirty = dirty;
        Item item = new Item();
        item.number = s.items.size();
        item.block = block;
        item.arrival = s.clock;
        item.deadline = allowance == 0 ? 0 : s.clock + allowance;
        if (s.writeBack && dirty.contains(block)) {
            item.state = 1;
            item.finish = s.clock;
        }
        s.items.add(item);
        return item.number;
    }

    int appendCharacter(int character) {
        refuseIf(character < 33 || character > 126, IllegalArgumentException::new);
        refuseIf(text.length() == 40, IllegalStateException::new);
        text += (char) character;
        return text.length();
    }

    int submitText() {
        String read = text;
        text = "";
        fault = -1;
        if (!TEXT.matcher(read).matches()) {
            fault = 0;
            while (fault < read.length() && canBegin(read.substring(0, fault + 1))) {
                fault++;
            }
            throw new IllegalArgumentException();
        }
        int submitted = 0;
        Matcher items = Pattern.compile(ITEM).matcher(read);
        while (items.find()) {
            int allowance = items.group(3) == null ? 0 : Integer.parseInt(items.group(3));
            try {
                submit(items.group(1).equals("r") ? 0 : 1, Integer.parseInt(items.group(2)), allowance);
                submitted++;
            } catch (RuntimeException e) {
                // The item is skipped.
            }
        }
        return submitted;
    }

    private static boolean canBegin(String start) {
        Matcher matcher = TEXT.matcher(start);
        return matcher.matches() || matcher.hitEnd();
    }

    int faultPosition() {
        return fault;
    }

    private Item item(int request) {
        refuseIf(request < 0 || request >= s.items.size(), IndexOutOfBoundsException::new);
        return s.items.get(request);
    }

    private Item item(int request, int state) {
        Item item = item(request);
        refuseIf(item.state != state, IllegalStateException::new);
        return item;
    }

    void cancel(int request) {
        item(request, 0).state = 2;
    }

    private int distance(Item item) {
        return Math.abs(cylinderOf(item.block) - s.arm);
    }

    private boolean inDirection(Item item) {
        int cylinder = cylinderOf(item.block);
        return cylinder == s.arm || (s.up ? cylinder > s.arm : cylinder < s.arm);
    }

    private static Item least(List<Item> items, Comparator<Item> order) {
        return items.stream().min(order.thenComparing(item -> item.number)).get();
    }

    private Item chosen() {
        List<Item> all = pending();
        refuseIf(all.isEmpty(), NoSuchElementException::new);
        Comparator<Item> near = Comparator.comparing(this::distance);
        Comparator<Item> soon = Comparator.comparing(item -> accessTime(item.block));
        switch (s.policy) {
            case 0:
                return all.get(0);
            case 1:
                return least(all, near);
            case 2:
                List<Item> ahead = all.stream().filter(this::inDirection).collect(Collectors.toList());
                return least(ahead.isEmpty() ? all : ahead, near);
            case 3:
                List<Item> above =
                    all.stream().filter(item -> cylinderOf(item.block) >= s.arm).collect(Collectors.toList());
                return above.isEmpty() ? least(all, Comparator.comparing(item -> cylinderOf(item.block)))
                    : least(above, near);
            case 4:
                return least(all, soon);
            case 5:
                int lowest = all.stream().mapToInt(item -> bucket(item.number)).min().getAsInt();
                return least(all.stream().filter(item -> bucket(item.number) == lowest).collect(Collectors.toList()),
                    soon);
            default:
                List<Item> urgent = all.stream().filter(Item::hasDeadline).limit(6).collect(Collectors.toList());
                List<Item> best = urgent.isEmpty() ? null : best(urgent, true);
                return best == null ? least(all, soon) : best.get(0);
        }
    }

    /** The orders of the items, lexicographically by their numbers. */
    private static List<List<Item>> orders(List<Item> items) {
        List<List<Item>> all = new ArrayList<>();
        if (items.isEmpty()) {
            all.add(new ArrayList<>());
        }
        for (Item first : items) {
            List<Item> rest = new ArrayList<>(items);
            rest.remove(first);
            for (List<Item> order : orders(rest)) {
                order.add(0, first);
                all.add(order);
            }
        }
        return all;
    }

    /** When the last one is finished, or -1 if deadlines count and one is missed. */
    private int end(List<Item> order, boolean deadlinesCount) {
        int cylinder = s.arm;
        int time = s.clock;
        for (Item item : order) {
            time += sum(parts(item.block, cylinder, time));
            cylinder = cylinderOf(item.block);
            if (deadlinesCount && item.hasDeadline() && time > item.deadline) {
                return -1;
            }
        }
        return time;
    }

    private List<Item> best(List<Item> items, boolean deadlinesCount) {
        List<Item> best = null;
        int bestEnd = -1;
        for (List<Item> order : orders(items)) {
            int end = end(order, deadlinesCount);
            if (end >= 0 && (best == null || end < bestEnd)) {
                best = order;
                bestEnd = end;
            }
        }
        return best;
    }

    int next() {
        return chosen().number;
    }

    private void serveOne() {
        Item item = chosen();
        if (s.policy == 2 && !inDirection(item)) {
            s.up = !s.up;
        }
        access(item.block);
        item.state = 1;
        item.finish = s.clock;
    }

    int serve() {
        int number = next();
        refuseIf(s.clock > 100000, IllegalStateException::new);
        serveOne();
        return number;
    }

    int serveFor(int ticks) {
        refuseIf(ticks < 1 || ticks > 9999, IllegalArgumentException::new);
        refuseIf(s.clock > 100000, IllegalStateException::new);
        int begin = s.clock;
        int served = 0;
        while (!pending().isEmpty() && s.clock < begin + ticks) {
            serveOne();
            served++;
        }
        return served;
    }

    int flush() {
        refuseIf(s.clock > 100000, IllegalStateException::new);
        int begin = s.clock;
        int arm = s.arm;
        List<Integer> byPlace = new ArrayList<>(s.dirty);
        byPlace.sort(Comparator.comparing(this::placeOf));
        List<Integer> order = new ArrayList<>();
        byPlace.stream().filter(block -> cylinderOf(block) >= arm).forEach(order::add);
        byPlace.stream().filter(block -> cylinderOf(block) < arm).forEach(order::add);
        order.forEach(this::access);
        s.dirty.clear();
        return s.clock - begin;
    }

    int dirtyBlocks() {
        return s.dirty.size();
    }

    int pendingRequests() {
        return pending().size();
    }

    int state(int request) {
        return item(request).state;
    }

    int bucket(int request) {
        Item item = item(request, 0);
        int bucket = 3;
        if (item.hasDeadline()) {
            bucket = item.deadline < s.clock ? 0 : Math.min(3, (item.deadline - s.clock) / s.width);
        }
        return Math.max(0, bucket - (s.clock - item.arrival) / s.aging);
    }

    int finish(int request) {
        return item(request, 1).finish;
    }

    boolean isLate(int request) {
        Item item = item(request, 1);
        refuseIf(!item.hasDeadline(), UnsupportedOperationException::new);
        return item.finish > item.deadline;
    }

    int bestFinish() {
        refuseIf(pending().size() > 6, UnsupportedOperationException::new);
        return end(best(pending(), false), false);
    }

    int bestRequest(int position) {
        refuseIf(pending().size() > 6, UnsupportedOperationException::new);
        refuseIf(position < 0 || position >= pending().size(), IndexOutOfBoundsException::new);
        return best(pending(), false).get(position).number;
    }

    boolean canMeetDeadlines() {
        refuseIf(pending().size() > 6, UnsupportedOperationException::new);
        return best(pending(), true) != null;
    }

    int total(int what) {
        refuseIf(what < 0 || what > 3, IllegalArgumentException::new);
        return s.totals[what];
    }

    double utilization() {
        refuseIf(s.clock == 0, ArithmeticException::new);
        return (double) (s.totals[0] + s.totals[1] + s.totals[2]) / (double) s.clock;
    }

    double averageResponse() {
        List<Item> finished = s.items.stream().filter(item -> item.state == 1).collect(Collectors.toList());
        refuseIf(finished.isEmpty(), ArithmeticException::new);
        return (double) finished.stream().mapToInt(item -> item.finish - item.arrival).sum()
            / (double) finished.size();
    }

    float lateShare() {
        List<Item> finished =
            s.items.stream().filter(item -> item.state == 1 && item.hasDeadline()).collect(Collectors.toList());
        refuseIf(finished.isEmpty(), ArithmeticException::new);
        return (float) finished.stream().filter(item -> item.finish > item.deadline).count()
            / (float) finished.size();
    }

    void save() {
        kept = s.copy();
    }

    int restore() {
        refuseIf(kept == null, IllegalStateException::new);
        s = kept.copy();
        return s.clock;
    }
}
