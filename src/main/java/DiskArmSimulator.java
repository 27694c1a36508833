import java.util.NoSuchElementException;

/**
 * A disk with a moving arm, its pending requests and the policy that chooses among them. The promises that the
 * methods keep are numbered in the project's document.
 */
public final class DiskArmSimulator {
    private static final int CYLINDERS = 64;
    private static final int ZONE_CYLINDERS = 16;
    private static final int LAST_ZONE = 3;
    private static final int PLACES = 576;
    private static final int BLOCKS = 572;
    private static final int SPARES = 4;
    private static final int REVOLUTION = 120;

    private static final int MAX_SETTLING = 50;
    private static final int MAX_ROOT_FACTOR = 20;
    private static final int MAX_LINEAR_FACTOR = 9;
    private static final int MAX_SKEW = 40;
    private static final int MAX_WIDTH = 999;
    private static final int MAX_AGING = 9999;
    private static final int MAX_ALLOWANCE = 9999;
    private static final int MAX_IDLE = 1000;
    private static final int MAX_SERVING = 9999;
    private static final int LAST_CLOCK = 100000;

    private static final int MAX_REQUESTS = 80;
    private static final int MAX_PENDING = 12;
    private static final int MAX_ORDERED = 6;
    private static final int MAX_DIRTY = 8;
    private static final int MAX_TEXT = 40;

    private static final int READING = 0;
    private static final int WRITING = 1;

    private static final int PENDING = 0;
    private static final int FINISHED = 1;
    private static final int CANCELLED = 2;

    private static final int LOWEST_NUMBER = 0;
    private static final int LEAST_DISTANCE = 1;
    private static final int TO_AND_FRO = 2;
    private static final int UPWARD_ONLY = 3;
    private static final int LOWEST_BUCKET = 5;
    private static final int BY_DEADLINES = 6;

    private static final int NONE = -1;
    /** Far above every time and every key. */
    private static final int NO_LIMIT = 1000000000;

    private static final int[] ZONE_SECTORS = {12, 10, 8, 6};
    private static final int[] ZONE_SECTOR_TICKS = {10, 12, 15, 20};
    private static final int[] ZONE_FIRST_PLACES = {0, 192, 352, 480};

    private final State now = new State();
    private final OrderSearch search = new OrderSearch();
    private final RequestText text = new RequestText();
    private State saved;

    public DiskArmSimulator() {
    }

    public void setCurve(int settling, int root, int linear) throws IllegalArgumentException {
        if (!isWithin(settling, 0, MAX_SETTLING) || !isWithin(root, 0, MAX_ROOT_FACTOR)
                || !isWithin(linear, 0, MAX_LINEAR_FACTOR)) {
            throw new IllegalArgumentException("a number of the seek curve is out of range");
        }
        now.drive.settling = settling;
        now.drive.rootFactor = root;
        now.drive.linearFactor = linear;
    }

    public int setSkew(int skew) throws IllegalArgumentException {
        if (!isWithin(skew, 0, MAX_SKEW)) {
            throw new IllegalArgumentException("the skew is out of range");
        }
        int previous = now.drive.skew;
        now.drive.skew = skew;
        return previous;
    }

    public int setPolicy(int policy) throws IllegalArgumentException {
        if (!isWithin(policy, LOWEST_NUMBER, BY_DEADLINES)) {
            throw new IllegalArgumentException("the policy is out of range");
        }
        int previous = now.scheduler.policy;
        now.scheduler.policy = policy;
        return previous;
    }

    public void setBuckets(int width, int aging) throws IllegalArgumentException {
        if (!isWithin(width, 1, MAX_WIDTH) || !isWithin(aging, 1, MAX_AGING)) {
            throw new IllegalArgumentException("the width or the aging time is out of range");
        }
        now.scheduler.width = width;
        now.scheduler.aging = aging;
    }

    public boolean setWriteBack(boolean on) throws IllegalStateException {
        if (!on && now.cache.count > 0) {
            throw new IllegalStateException("a block is dirty");
        }
        boolean previous = now.cache.on;
        now.cache.on = on;
        return previous;
    }

    public int seekTime(int from, int to) throws IndexOutOfBoundsException {
        if (!isWithin(from, 0, CYLINDERS - 1) || !isWithin(to, 0, CYLINDERS - 1)) {
            throw new IndexOutOfBoundsException("there is no such cylinder");
        }
        return now.drive.ticksOfSeek(from, to);
    }

    public int placeOf(int block) throws IndexOutOfBoundsException {
        requireBlock(block);
        return now.drive.placeOfBlock(block);
    }

    public int cylinderOf(int block) throws IndexOutOfBoundsException {
        requireBlock(block);
        return Geometry.cylinderOfPlace(now.drive.placeOfBlock(block));
    }

    public int sectorOf(int block) throws IndexOutOfBoundsException {
        requireBlock(block);
        return Geometry.sectorOfPlace(now.drive.placeOfBlock(block));
    }

    public int startAngle(int block) throws IndexOutOfBoundsException {
        requireBlock(block);
        return now.drive.angleOfPlace(now.drive.placeOfBlock(block));
    }

    public int accessTime(int block) throws IndexOutOfBoundsException {
        requireBlock(block);
        return now.drive.ticksToAccess(now.drive.placeOfBlock(block));
    }

    public int moveToSpare(int block)
            throws IndexOutOfBoundsException, IllegalStateException, UnsupportedOperationException {
        requireBlock(block);
        if (now.drive.spareOfBlock(block) != NONE) {
            throw new IllegalStateException("the block is at a spare place already");
        }
        int place = now.drive.takeSpare(block);
        if (place == NONE) {
            throw new UnsupportedOperationException("all spare places are taken");
        }
        return place;
    }

    public int accessesOf(int block) throws IndexOutOfBoundsException {
        requireBlock(block);
        return now.drive.accessesAt(now.drive.placeOfBlock(block));
    }

    public int clock() {
        return now.drive.clock;
    }

    public int arm() {
        return now.drive.arm;
    }

    public boolean isUpward() {
        return now.scheduler.upward;
    }

    public int idle(int ticks) throws IllegalArgumentException, IllegalStateException {
        if (!isWithin(ticks, 1, MAX_IDLE)) {
            throw new IllegalArgumentException("the number of ticks is out of range");
        }
        if (now.drive.clock > LAST_CLOCK - ticks) {
            throw new IllegalStateException("the clock would be too great");
        }
        now.drive.clock += ticks;
        return now.drive.clock;
    }

    public int submit(int kind, int block, int allowance)
            throws IllegalArgumentException, IndexOutOfBoundsException, IllegalStateException {
        if (!isWithin(kind, READING, WRITING) || !isWithin(allowance, 0, MAX_ALLOWANCE)) {
            throw new IllegalArgumentException("the kind or the allowance is out of range");
        }
        requireBlock(block);
        if (!now.hasRoomFor(kind, block)) {
            throw new IllegalStateException("there is no room for the request");
        }
        return now.accept(kind, block, allowance);
    }

    public int appendCharacter(int character) throws IllegalArgumentException, IllegalStateException {
        if (!isWithin(character, 33, 126)) {
            throw new IllegalArgumentException("the character is not from 33 to 126");
        }
        if (!text.append(character)) {
            throw new IllegalStateException("the text is full");
        }
        return text.length;
    }

    public int submitText() throws IllegalArgumentException {
        if (!text.read()) {
            throw new IllegalArgumentException("the text has a fault");
        }
        int submitted = 0;
        for (int i = 0; i < text.itemCount && i < RequestText.MAX_ITEMS; i++) {
            // The syntax leaves only the block and the room to be refused: kinds and allowances are in range by it.
            if (isBlock(text.blocks[i]) && now.hasRoomFor(text.kinds[i], text.blocks[i])) {
                now.accept(text.kinds[i], text.blocks[i], text.allowances[i]);
                submitted++;
            }
        }
        return submitted;
    }

    public int faultPosition() {
        return text.fault;
    }

    public void cancel(int request) throws IndexOutOfBoundsException, IllegalStateException {
        Request found = requireRequest(request);
        if (found.state != PENDING) {
            throw new IllegalStateException("the request is not pending");
        }
        now.requests.cancelPending(found);
    }

    public int next() throws NoSuchElementException {
        int chosen = now.scheduler.choose(now.requests, now.drive, search);
        if (chosen == NONE) {
            throw new NoSuchElementException("no request is pending");
        }
        return chosen;
    }

    public int serve() throws NoSuchElementException, IllegalStateException {
        if (now.requests.pending == 0) {
            throw new NoSuchElementException("no request is pending");
        }
        requireTimeToAccess();
        return now.serveChosen(search);
    }

    public int serveFor(int ticks) throws IllegalArgumentException, IllegalStateException {
        if (!isWithin(ticks, 1, MAX_SERVING)) {
            throw new IllegalArgumentException("the number of ticks is out of range");
        }
        requireTimeToAccess();
        int end = now.drive.clock + ticks;
        int served = 0;
        while (served < MAX_PENDING && now.requests.pending > 0 && now.drive.clock < end) {
            now.serveChosen(search);
            served++;
        }
        return served;
    }

    public int flush() throws IllegalStateException {
        requireTimeToAccess();
        int begin = now.drive.clock;
        now.cache.writeAll(now.drive);
        return now.drive.clock - begin;
    }

    public int dirtyBlocks() {
        return now.cache.count;
    }

    public int pendingRequests() {
        return now.requests.pending;
    }

    public int state(int request) throws IndexOutOfBoundsException {
        return requireRequest(request).state;
    }

    public int bucket(int request) throws IndexOutOfBoundsException, IllegalStateException {
        Request found = requireRequest(request);
        if (found.state != PENDING) {
            throw new IllegalStateException("the request is not pending");
        }
        return now.scheduler.bucketOf(found, now.drive.clock);
    }

    public int finish(int request) throws IndexOutOfBoundsException, IllegalStateException {
        Request found = requireRequest(request);
        if (found.state != FINISHED) {
            throw new IllegalStateException("the request is not finished");
        }
        return found.finish;
    }

    public boolean isLate(int request)
            throws IndexOutOfBoundsException, IllegalStateException, UnsupportedOperationException {
        Request found = requireRequest(request);
        if (found.state != FINISHED) {
            throw new IllegalStateException("the request is not finished");
        }
        if (!found.hasDeadline()) {
            throw new UnsupportedOperationException("the request has no deadline");
        }
        return found.missedDeadline();
    }

    public int bestFinish() throws UnsupportedOperationException {
        requireFewPending();
        search.gather(now.requests, now.drive, false, false);
        search.run(now.drive);
        return search.bestEnd;
    }

    public int bestRequest(int position) throws UnsupportedOperationException, IndexOutOfBoundsException {
        requireFewPending();
        if (!isWithin(position, 0, now.requests.pending - 1)) {
            throw new IndexOutOfBoundsException("there is no such position");
        }
        search.gather(now.requests, now.drive, false, false);
        search.run(now.drive);
        return search.requestAt(position);
    }

    public boolean canMeetDeadlines() throws UnsupportedOperationException {
        requireFewPending();
        search.gather(now.requests, now.drive, false, true);
        search.run(now.drive);
        return search.hasFound();
    }

    public int total(int what) throws IllegalArgumentException {
        switch (what) {
            case 0:
                return now.drive.seekTotal;
            case 1:
                return now.drive.waitTotal;
            case 2:
                return now.drive.transferTotal;
            case 3:
                return now.drive.accessTotal;
            default:
                throw new IllegalArgumentException("there is no such sum");
        }
    }

    public double utilization() throws ArithmeticException {
        if (now.drive.clock == 0) {
            throw new ArithmeticException("the clock is 0");
        }
        int busy = now.drive.seekTotal + now.drive.waitTotal + now.drive.transferTotal;
        return (double) busy / (double) now.drive.clock;
    }

    public double averageResponse() throws ArithmeticException {
        int finished = now.requests.countFinished();
        if (finished == 0) {
            throw new ArithmeticException("no request is finished");
        }
        return (double) now.requests.sumOfResponses() / (double) finished;
    }

    public float lateShare() throws ArithmeticException {
        int withDeadline = now.requests.countFinishedWithDeadline();
        if (withDeadline == 0) {
            throw new ArithmeticException("no request with a deadline is finished");
        }
        return (float) now.requests.countLate() / (float) withDeadline;
    }

    public void save() {
        if (saved == null) {
            saved = new State();
        }
        saved.copyFrom(now);
    }

    public int restore() throws IllegalStateException {
        if (saved == null) {
            throw new IllegalStateException("nothing was saved");
        }
        now.copyFrom(saved);
        return now.drive.clock;
    }

    private static boolean isWithin(int number, int least, int greatest) {
        return number >= least && number <= greatest;
    }

    private static boolean isBlock(int block) {
        return isWithin(block, 0, BLOCKS - 1);
    }

    private static void requireBlock(int block) {
        if (!isBlock(block)) {
            throw new IndexOutOfBoundsException("there is no such block");
        }
    }

    private Request requireRequest(int request) {
        Request found = now.requests.find(request);
        if (found == null) {
            throw new IndexOutOfBoundsException("there is no such request");
        }
        return found;
    }

    private void requireFewPending() {
        if (now.requests.pending > MAX_ORDERED) {
            throw new UnsupportedOperationException("too many requests are pending");
        }
    }

    private void requireTimeToAccess() {
        if (now.drive.clock > LAST_CLOCK) {
            throw new IllegalStateException("the clock is too great");
        }
    }

    private static void copyNumbers(int[] from, int[] to) {
        System.arraycopy(from, 0, to, 0, Math.min(from.length, to.length));
    }

    /** Where the places lie; only the numbers of the document, so nothing here changes. */
    private static final class Geometry {
        static int zoneOfPlace(int place) {
            for (int zone = LAST_ZONE; zone > 0; zone--) {
                if (place >= ZONE_FIRST_PLACES[zone]) {
                    return zone;
                }
            }
            return 0;
        }

        static int cylinderOfPlace(int place) {
            int zone = zoneOfPlace(place);
            return zone * ZONE_CYLINDERS + quotient(place - ZONE_FIRST_PLACES[zone], ZONE_SECTORS[zone]);
        }

        static int sectorOfPlace(int place) {
            int zone = zoneOfPlace(place);
            int inZone = place - ZONE_FIRST_PLACES[zone];
            return inZone - quotient(inZone, ZONE_SECTORS[zone]) * ZONE_SECTORS[zone];
        }

        static int sectorTicksAt(int place) {
            return ZONE_SECTOR_TICKS[zoneOfPlace(place)];
        }

        /** No divisor here is ever 0, but each one is looked at before it divides. */
        static int quotient(int dividend, int divisor) {
            return divisor > 0 ? dividend / divisor : 0;
        }
    }

    /** The moving parts: the arm, the clock, the seek curve, the spare places, and what the accesses add up to. */
    private static final class Drive {
        int settling = 10;
        int rootFactor = 4;
        int linearFactor = 1;
        int skew;
        int clock;
        int arm;
        int seekTotal;
        int waitTotal;
        int transferTotal;
        int accessTotal;
        int sparesTaken;
        final int[] spareBlocks = new int[SPARES];
        final int[] accesses = new int[PLACES];

        void copyFrom(Drive other) {
            settling = other.settling;
            rootFactor = other.rootFactor;
            linearFactor = other.linearFactor;
            skew = other.skew;
            clock = other.clock;
            arm = other.arm;
            seekTotal = other.seekTotal;
            waitTotal = other.waitTotal;
            transferTotal = other.transferTotal;
            accessTotal = other.accessTotal;
            sparesTaken = other.sparesTaken;
            copyNumbers(other.spareBlocks, spareBlocks);
            copyNumbers(other.accesses, accesses);
        }

        int spareOfBlock(int block) {
            for (int i = 0; i < sparesTaken && i < SPARES; i++) {
                if (spareBlocks[i] == block) {
                    return BLOCKS + i;
                }
            }
            return NONE;
        }

        int takeSpare(int block) {
            if (!isWithin(sparesTaken, 0, SPARES - 1)) {
                return NONE;
            }
            spareBlocks[sparesTaken] = block;
            sparesTaken++;
            return BLOCKS + sparesTaken - 1;
        }

        int placeOfBlock(int block) {
            int spare = spareOfBlock(block);
            return spare == NONE ? block : spare;
        }

        int accessesAt(int place) {
            return isWithin(place, 0, PLACES - 1) ? accesses[place] : 0;
        }

        int ticksOfSeek(int from, int to) {
            int distance = from < to ? to - from : from - to;
            if (distance == 0) {
                return 0;
            }
            int root = 1;
            while (root < CYLINDERS && (root + 1) * (root + 1) <= distance) {
                root++;
            }
            return settling + rootFactor * root + linearFactor * distance;
        }

        int angleOfPlace(int place) {
            int inTrack = Geometry.sectorOfPlace(place) * Geometry.sectorTicksAt(place);
            return (inTrack + Geometry.cylinderOfPlace(place) * skew) % REVOLUTION;
        }

        int ticksToAccess(int place) {
            int seek = ticksOfSeek(arm, Geometry.cylinderOfPlace(place));
            return seek + ticksOfWait(angleOfPlace(place), clock + seek) + Geometry.sectorTicksAt(place);
        }

        static int ticksOfWait(int angle, int time) {
            return Math.floorMod(angle - time, REVOLUTION);
        }

        void access(int place) {
            int cylinder = Geometry.cylinderOfPlace(place);
            int seek = ticksOfSeek(arm, cylinder);
            int wait = ticksOfWait(angleOfPlace(place), clock + seek);
            int transfer = Geometry.sectorTicksAt(place);
            clock += seek + wait + transfer;
            arm = cylinder;
            seekTotal += seek;
            waitTotal += wait;
            transferTotal += transfer;
            accessTotal++;
            if (isWithin(place, 0, PLACES - 1)) {
                accesses[place]++;
            }
        }
    }

    /** The kind is not kept: it matters only while the request is accepted. */
    private static final class Request {
        final int number;
        int block;
        int arrival;
        int deadline;
        int finish;
        int state;

        Request(int number) {
            this.number = number;
        }

        void begin(int block, int arrival, int deadline) {
            this.block = block;
            this.arrival = arrival;
            this.deadline = deadline;
            this.finish = NONE;
            this.state = PENDING;
        }

        void copyFrom(Request other) {
            block = other.block;
            arrival = other.arrival;
            deadline = other.deadline;
            finish = other.finish;
            state = other.state;
        }

        boolean hasDeadline() {
            return deadline != NONE;
        }

        boolean missedDeadline() {
            return hasDeadline() && finish > deadline;
        }
    }

    /** All requests by their numbers. Rows stay when a restore lowers the count, and are used again. */
    private static final class Requests {
        int count;
        int pending;
        final Request[] rows = new Request[MAX_REQUESTS];

        void copyFrom(Requests other) {
            for (int i = 0; i < other.count && i < MAX_REQUESTS; i++) {
                Request from = other.rows[i];
                Request to = rowAt(i);
                if (from != null && to != null) {
                    to.copyFrom(from);
                }
            }
            count = other.count;
            pending = other.pending;
        }

        private Request rowAt(int number) {
            if (!isWithin(number, 0, MAX_REQUESTS - 1)) {
                return null;
            }
            if (rows[number] == null) {
                rows[number] = new Request(number);
            }
            return rows[number];
        }

        Request find(int number) {
            return number >= 0 && number < count && number < MAX_REQUESTS ? rows[number] : null;
        }

        Request findPending(int number) {
            Request found = find(number);
            return found != null && found.state == PENDING ? found : null;
        }

        Request findFinished(int number) {
            Request found = find(number);
            return found != null && found.state == FINISHED ? found : null;
        }

        Request add(int block, int arrival, int deadline) {
            Request row = rowAt(count);
            if (row != null) {
                row.begin(block, arrival, deadline);
                count++;
                pending++;
            }
            return row;
        }

        void finishPending(Request request, int clock) {
            request.state = FINISHED;
            request.finish = clock;
            pending--;
        }

        void cancelPending(Request request) {
            request.state = CANCELLED;
            pending--;
        }

        int countFinished() {
            int finished = 0;
            for (int i = 0; i < count; i++) {
                finished += findFinished(i) != null ? 1 : 0;
            }
            return finished;
        }

        int sumOfResponses() {
            int sum = 0;
            for (int i = 0; i < count; i++) {
                Request request = findFinished(i);
                sum += request != null ? request.finish - request.arrival : 0;
            }
            return sum;
        }

        int countFinishedWithDeadline() {
            int counted = 0;
            for (int i = 0; i < count; i++) {
                Request request = findFinished(i);
                counted += request != null && request.hasDeadline() ? 1 : 0;
            }
            return counted;
        }

        int countLate() {
            int late = 0;
            for (int i = 0; i < count; i++) {
                Request request = findFinished(i);
                late += request != null && request.missedDeadline() ? 1 : 0;
            }
            return late;
        }
    }

    /** Chooses the next request: each policy but the last gives every pending request a key, and the least wins. */
    private static final class Scheduler {
        /** Greater than every access time, so that the bucket decides before it. */
        static final int BUCKET_STEP = 10000;
        static final int LAST_BUCKET = 3;

        int policy;
        boolean upward = true;
        int width = 200;
        int aging = 1000;

        void copyFrom(Scheduler other) {
            policy = other.policy;
            upward = other.upward;
            width = other.width;
            aging = other.aging;
        }

        int choose(Requests requests, Drive drive, OrderSearch search) {
            if (policy == BY_DEADLINES) {
                search.gather(requests, drive, true, true);
                search.run(drive);
                if (search.size > 0 && search.hasFound()) {
                    return search.requestAt(0);
                }
            }
            int chosen = NONE;
            int leastKey = NO_LIMIT;
            for (int i = 0; i < requests.count; i++) {
                Request request = requests.findPending(i);
                int key = request != null ? keyOf(request, drive) : NO_LIMIT;
                if (key < leastKey) {
                    chosen = i;
                    leastKey = key;
                }
            }
            return chosen;
        }

        private int keyOf(Request request, Drive drive) {
            int place = drive.placeOfBlock(request.block);
            int cylinder = Geometry.cylinderOfPlace(place);
            int distance = Math.abs(cylinder - drive.arm);
            switch (policy) {
                case LOWEST_NUMBER:
                    return request.number;
                case LEAST_DISTANCE:
                    return distance;
                case TO_AND_FRO:
                    return isAhead(cylinder, drive.arm) ? distance : CYLINDERS + distance;
                case UPWARD_ONLY:
                    return cylinder >= drive.arm ? distance : CYLINDERS + cylinder;
                case LOWEST_BUCKET:
                    return bucketOf(request, drive.clock) * BUCKET_STEP + drive.ticksToAccess(place);
                default:
                    // Policy 4, and policy 6 where no order meets the deadlines.
                    return drive.ticksToAccess(place);
            }
        }

        private boolean isAhead(int cylinder, int arm) {
            return upward ? cylinder >= arm : cylinder <= arm;
        }

        void turnFor(int cylinder, int arm) {
            if (policy == TO_AND_FRO && !isAhead(cylinder, arm)) {
                upward = !upward;
            }
        }

        int bucketOf(Request request, int clock) {
            int bucket = LAST_BUCKET;
            if (request.hasDeadline()) {
                int left = Math.max(0, request.deadline - clock);
                bucket = Math.min(LAST_BUCKET, Geometry.quotient(left, width));
            }
            return Math.max(0, bucket - Geometry.quotient(clock - request.arrival, aging));
        }
    }

    /** The dirty blocks, in the order in which they became dirty. */
    private static final class Cache {
        boolean on;
        int count;
        final int[] blocks = new int[MAX_DIRTY];

        void copyFrom(Cache other) {
            on = other.on;
            count = other.count;
            copyNumbers(other.blocks, blocks);
        }

        boolean holds(int block) {
            for (int i = 0; i < count && i < MAX_DIRTY; i++) {
                if (blocks[i] == block) {
                    return true;
                }
            }
            return false;
        }

        void makeDirty(int block) {
            if (!holds(block) && isWithin(count, 0, MAX_DIRTY - 1)) {
                blocks[count] = block;
                count++;
            }
        }

        boolean finishesAtOnce(int kind, int block) {
            return on && (kind == WRITING || holds(block));
        }

        void writeAll(Drive drive) {
            int firstCylinder = drive.arm;
            int key = NONE;
            for (int i = 0; i < count && i < MAX_DIRTY; i++) {
                key = leastKeyAbove(key, firstCylinder, drive);
                drive.access(key >= PLACES ? key - PLACES : key);
            }
            count = 0;
        }

        /** The keys are the places, moved up behind all others where the flush comes only in its second part. */
        private int leastKeyAbove(int bound, int firstCylinder, Drive drive) {
            int least = NO_LIMIT;
            for (int i = 0; i < count && i < MAX_DIRTY; i++) {
                int place = drive.placeOfBlock(blocks[i]);
                int key = Geometry.cylinderOfPlace(place) >= firstCylinder ? place : place + PLACES;
                if (key > bound && key < least) {
                    least = key;
                }
            }
            return least;
        }
    }

    /** All that is saved and restored. */
    private static final class State {
        final Drive drive = new Drive();
        final Requests requests = new Requests();
        final Scheduler scheduler = new Scheduler();
        final Cache cache = new Cache();

        void copyFrom(State other) {
            drive.copyFrom(other.drive);
            requests.copyFrom(other.requests);
            scheduler.copyFrom(other.scheduler);
            cache.copyFrom(other.cache);
        }

        boolean hasRoomFor(int kind, int block) {
            if (requests.count >= MAX_REQUESTS || requests.pending >= MAX_PENDING) {
                return false;
            }
            boolean dirties = cache.on && kind == WRITING && !cache.holds(block);
            return !dirties || cache.count < MAX_DIRTY;
        }

        int accept(int kind, int block, int allowance) {
            int clock = drive.clock;
            Request request = requests.add(block, clock, allowance == 0 ? NONE : clock + allowance);
            if (request == null) {
                return NONE;
            }
            if (cache.finishesAtOnce(kind, block)) {
                requests.finishPending(request, clock);
                if (kind == WRITING) {
                    cache.makeDirty(block);
                }
            }
            return request.number;
        }

        int serveChosen(OrderSearch search) {
            Request request = requests.findPending(scheduler.choose(requests, drive, search));
            if (request == null) {
                return NONE;
            }
            int place = drive.placeOfBlock(request.block);
            scheduler.turnFor(Geometry.cylinderOfPlace(place), drive.arm);
            drive.access(place);
            requests.finishPending(request, drive.clock);
            return request.number;
        }
    }

    /** Tries all orders of a few pending requests. Its rows are used again by every search. */
    private static final class OrderSearch {
        int size;
        int bestEnd;
        final int[] numbers = new int[MAX_ORDERED];
        final int[] cylinders = new int[MAX_ORDERED];
        final int[] angles = new int[MAX_ORDERED];
        final int[] transfers = new int[MAX_ORDERED];
        final int[] limits = new int[MAX_ORDERED];
        final boolean[] taken = new boolean[MAX_ORDERED];
        final int[] order = new int[MAX_ORDERED];
        final int[] bestOrder = new int[MAX_ORDERED];

        void gather(Requests requests, Drive drive, boolean onlyWithDeadline, boolean heedDeadlines) {
            size = 0;
            for (int i = 0; i < requests.count && size < MAX_ORDERED; i++) {
                Request request = requests.findPending(i);
                if (request != null && (request.hasDeadline() || !onlyWithDeadline)) {
                    int place = drive.placeOfBlock(request.block);
                    numbers[size] = i;
                    cylinders[size] = Geometry.cylinderOfPlace(place);
                    angles[size] = drive.angleOfPlace(place);
                    transfers[size] = Geometry.sectorTicksAt(place);
                    limits[size] = heedDeadlines && request.hasDeadline() ? request.deadline : NO_LIMIT;
                    taken[size] = false;
                    size++;
                }
            }
        }

        void run(Drive drive) {
            bestEnd = NO_LIMIT;
            tryFrom(0, drive.arm, drive.clock, drive);
        }

        boolean hasFound() {
            return bestEnd != NO_LIMIT;
        }

        int requestAt(int position) {
            return isWithin(position, 0, MAX_ORDERED - 1) ? bestOrder[position] : NONE;
        }

        /** The orders come in lexicographic order, so an equal end never replaces an earlier one. */
        private void tryFrom(int depth, int cylinder, int time, Drive drive) {
            if (time >= bestEnd) {
                return;
            }
            if (depth >= size || depth >= MAX_ORDERED) {
                bestEnd = time;
                copyNumbers(order, bestOrder);
                return;
            }
            for (int i = 0; i < size && i < MAX_ORDERED; i++) {
                if (!taken[i]) {
                    tryNext(i, depth, cylinder, time, drive);
                }
            }
        }

        private void tryNext(int next, int depth, int cylinder, int time, Drive drive) {
            if (!isWithin(next, 0, MAX_ORDERED - 1) || !isWithin(depth, 0, MAX_ORDERED - 1)) {
                return;
            }
            int there = time + drive.ticksOfSeek(cylinder, cylinders[next]);
            int end = there + Drive.ticksOfWait(angles[next], there) + transfers[next];
            if (end <= limits[next]) {
                taken[next] = true;
                order[depth] = numbers[next];
                tryFrom(depth + 1, cylinders[next], end, drive);
                taken[next] = false;
            }
        }
    }

    /** The text, and the items that were read in it last. */
    private static final class RequestText {
        /** Forty characters hold 13 items at the most; a fourteenth can begin but not end. */
        static final int MAX_ITEMS = 14;

        int length;
        int fault = NONE;
        int itemCount;
        final int[] kinds = new int[MAX_ITEMS];
        final int[] blocks = new int[MAX_ITEMS];
        final int[] allowances = new int[MAX_ITEMS];
        private int position;
        private final int[] characters = new int[MAX_TEXT];

        boolean append(int character) {
            if (!isWithin(length, 0, MAX_TEXT - 1)) {
                return false;
            }
            characters[length] = character;
            length++;
            return true;
        }

        boolean read() {
            position = 0;
            itemCount = 0;
            boolean faultless = readItems();
            fault = faultless ? NONE : position;
            length = 0;
            return faultless;
        }

        private boolean readItems() {
            for (int i = 0; i < MAX_ITEMS; i++) {
                if (!readItem()) {
                    return false;
                }
                if (position >= length) {
                    return true;
                }
                if (!skip(',')) {
                    return false;
                }
            }
            return false;
        }

        private boolean readItem() {
            int kind = skip('r') ? READING : skip('w') ? WRITING : NONE;
            if (kind == NONE) {
                return false;
            }
            int block = readNumber(3);
            if (block == NONE) {
                return false;
            }
            int allowance = skip('@') ? readNumber(4) : 0;
            if (allowance == NONE) {
                return false;
            }
            return keepItem(kind, block, allowance);
        }

        private boolean keepItem(int kind, int block, int allowance) {
            if (!isWithin(itemCount, 0, MAX_ITEMS - 1)) {
                return false;
            }
            kinds[itemCount] = kind;
            blocks[itemCount] = block;
            allowances[itemCount] = allowance;
            itemCount++;
            return true;
        }

        private int readNumber(int mostDigits) {
            int number = 0;
            int digits = 0;
            while (digits < mostDigits && isWithin(current(), '0', '9')) {
                number = number * 10 + current() - '0';
                digits++;
                position++;
            }
            return digits == 0 ? NONE : number;
        }

        private boolean skip(int character) {
            if (current() != character) {
                return false;
            }
            position++;
            return true;
        }

        private int current() {
            return position >= 0 && position < length && position < MAX_TEXT ? characters[position] : NONE;
        }
    }
}
