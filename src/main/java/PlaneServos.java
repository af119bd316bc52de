/** A radio system for model planes, as ../shared/DOC.md promises it. */
public final class PlaneServos {
    public static final int NONE = -1;

    private static final int STICKS = 4;
    private static final int SERVOS = 6;
    private static final int MOST_MIXES = 12;
    private static final int THROTTLE = 2;
    private static final int FULL_THROW = 100;
    private static final int MOST_TRIM = 25;
    private static final int MOST_RATE = 125;
    private static final int MOST_EXPO = 100;
    private static final int MOST_SHARE = 150;
    private static final int MOST_OFFSET = 50;
    private static final int MOST_DEMAND = 300;
    private static final int MOST_NEUTRAL = 50;
    private static final int MOST_LIMIT = 150;
    private static final int MOST_SPEED = 300;
    private static final int MOST_FRAMES = 50;
    private static final int MOST_DELAY = 50;
    private static final int FULL_BATTERY = 20000;
    private static final int ALWAYS = 0;
    private static final int WHILE_LOW = 1;
    private static final int WHILE_HIGH = 2;
    private static final int PRESET = 1;
    private static final int OFF = 2;
    private static final int BEST_TRIM_BASE = 100;
    private static final int MOST_TEXT = 60;
    private static final int FIRST_CODE = 33;
    private static final int LAST_CODE = 126;
    private static final int MOST_SAVED = 6;
    private static final int MEMORIES = 2;
    private static final long HASH_START = 4366L;

    private final State now;
    private final State[] saved;
    private int oldestSaved;
    private int savedCount;
    private final State[] memories;
    private final int[] text;
    private int textLength;
    private final CommandReader reader;

    public PlaneServos() {
        now = new State();
        saved = new State[MOST_SAVED];
        memories = new State[MEMORIES];
        text = new int[MOST_TEXT];
        reader = new CommandReader();
    }

    // ---- sticks

    public int move(int stick, int position) throws IndexOutOfBoundsException, IllegalArgumentException {
        requireStick(stick);
        requireRange(position, -FULL_THROW, FULL_THROW);
        saveState();
        int previous = now.sticks.position[stick];
        now.sticks.position[stick] = position;
        return previous;
    }

    public int position(int stick) throws IndexOutOfBoundsException {
        requireStick(stick);
        return now.sticks.position[stick];
    }

    public int setTrim(int stick, int trim) throws IndexOutOfBoundsException, IllegalArgumentException {
        requireStick(stick);
        requireRange(trim, -MOST_TRIM, MOST_TRIM);
        saveState();
        int slot = now.sticks.slotOf(stick);
        int previous = now.sticks.trim[slot];
        now.sticks.trim[slot] = trim;
        return previous;
    }

    public int trim(int stick) throws IndexOutOfBoundsException {
        requireStick(stick);
        return now.sticks.trim[now.sticks.slotOf(stick)];
    }

    public int setRate(int stick, int rate) throws IndexOutOfBoundsException, IllegalArgumentException {
        requireStick(stick);
        requireRange(rate, 0, MOST_RATE);
        saveState();
        int slot = now.sticks.slotOf(stick);
        int previous = now.sticks.rate[slot];
        now.sticks.rate[slot] = rate;
        return previous;
    }

    public int rate(int stick) throws IndexOutOfBoundsException {
        requireStick(stick);
        return now.sticks.rate[now.sticks.slotOf(stick)];
    }

    public int setExpo(int stick, int expo) throws IndexOutOfBoundsException, IllegalArgumentException {
        requireStick(stick);
        requireRange(expo, 0, MOST_EXPO);
        saveState();
        int previous = now.sticks.expo[stick];
        now.sticks.expo[stick] = expo;
        return previous;
    }

    public int expo(int stick) throws IndexOutOfBoundsException {
        requireStick(stick);
        return now.sticks.expo[stick];
    }

    public boolean switchRates() {
        saveState();
        now.sticks.isHigh = !now.sticks.isHigh;
        return now.sticks.isHigh;
    }

    public boolean isHigh() {
        return now.sticks.isHigh;
    }

    public boolean cutThrottle(boolean isOn) {
        saveState();
        boolean wasOn = now.sticks.isCut;
        now.sticks.isCut = isOn;
        return wasOn;
    }

    public boolean isCut() {
        return now.sticks.isCut;
    }

    public int command(int stick) throws IndexOutOfBoundsException {
        requireStick(stick);
        return now.sticks.commandOf(stick);
    }

    // ---- mixes

    public int addMix(int source, int servo, int share, int offset, int condition)
            throws IndexOutOfBoundsException, IllegalArgumentException, IllegalStateException {
        requireServo(servo);
        // The sources of a servo are the sticks and the servos below it.
        requireRange(source, 0, STICKS + servo - 1);
        requireRange(share, -MOST_SHARE, MOST_SHARE);
        if (share == 0) {
            throw new IllegalArgumentException("A share is not 0.");
        }
        requireRange(offset, -MOST_OFFSET, MOST_OFFSET);
        requireRange(condition, ALWAYS, WHILE_HIGH);
        requireRoomForMixes(1);
        saveState();
        now.mixes.put(source, servo, share, offset, condition);
        return now.mixes.count - 1;
    }

    public int removeMix(int mix) throws IndexOutOfBoundsException {
        requireMix(mix);
        saveState();
        now.mixes.dropAt(mix);
        return now.mixes.count;
    }

    public int clearMixes(int servo) throws IndexOutOfBoundsException {
        requireServo(servo);
        saveState();
        return now.mixes.dropAllOf(servo);
    }

    public int elevons(int left, int right, int share)
            throws IndexOutOfBoundsException, IllegalArgumentException, IllegalStateException {
        requireServo(left);
        requireServo(right);
        if (left == right) {
            throw new IllegalArgumentException("A pair of elevons has two servos.");
        }
        requireRange(share, 1, MOST_SHARE);
        requireRoomForMixes(4);
        saveState();
        now.mixes.put(0, left, share, 0, ALWAYS);
        now.mixes.put(1, left, share, 0, ALWAYS);
        now.mixes.put(0, right, -share, 0, ALWAYS);
        now.mixes.put(1, right, share, 0, ALWAYS);
        return now.mixes.count;
    }

    public int mixes() {
        return now.mixes.count;
    }

    public int mixSource(int mix) throws IndexOutOfBoundsException {
        requireMix(mix);
        return now.mixes.source[mix];
    }

    public int mixServo(int mix) throws IndexOutOfBoundsException {
        requireMix(mix);
        return now.mixes.servo[mix];
    }

    public int mixValue(int mix) throws IndexOutOfBoundsException {
        requireMix(mix);
        now.computeDemands();
        return now.valueOf(mix);
    }

    public boolean isActive(int mix) throws IndexOutOfBoundsException {
        requireMix(mix);
        return now.mixes.holds(mix, now.sticks.isHigh);
    }

    // ---- servos

    public boolean reverse(int servo) throws IndexOutOfBoundsException {
        requireServo(servo);
        saveState();
        now.servos.direction[servo] = -now.servos.direction[servo];
        return now.servos.direction[servo] < 0;
    }

    public int setNeutral(int servo, int neutral) throws IndexOutOfBoundsException, IllegalArgumentException {
        requireServo(servo);
        requireRange(neutral, -MOST_NEUTRAL, MOST_NEUTRAL);
        saveState();
        int previous = now.servos.neutral[servo];
        now.servos.neutral[servo] = neutral;
        return previous;
    }

    public int setLimits(int servo, int low, int high) throws IndexOutOfBoundsException, IllegalArgumentException {
        requireServo(servo);
        requireRange(low, -MOST_LIMIT, 0);
        requireRange(high, 0, MOST_LIMIT);
        saveState();
        int previous = now.servos.high[servo] - now.servos.low[servo];
        now.servos.low[servo] = low;
        now.servos.high[servo] = high;
        return previous;
    }

    public int setSpeed(int servo, int speed) throws IndexOutOfBoundsException, IllegalArgumentException {
        requireServo(servo);
        requireRange(speed, 1, MOST_SPEED);
        saveState();
        int previous = now.servos.speed[servo];
        now.servos.speed[servo] = speed;
        return previous;
    }

    public int setFailsafe(int servo, int mode, int preset)
            throws IndexOutOfBoundsException, IllegalArgumentException {
        requireServo(servo);
        requireRange(mode, 0, OFF);
        requireRange(preset, -MOST_LIMIT, MOST_LIMIT);
        saveState();
        int previous = now.servos.mode[servo];
        now.servos.mode[servo] = mode;
        now.servos.preset[servo] = preset;
        return previous;
    }

    public int demand(int servo) throws IndexOutOfBoundsException {
        requireServo(servo);
        now.computeDemands();
        return now.demands[servo];
    }

    public int aim(int servo) throws IndexOutOfBoundsException {
        requireServo(servo);
        now.computeDemands();
        return now.aimOf(servo);
    }

    public int excess(int servo) throws IndexOutOfBoundsException {
        requireServo(servo);
        now.computeDemands();
        return now.rawAimOf(servo) - now.aimOf(servo);
    }

    public int target(int servo) throws IndexOutOfBoundsException {
        requireServo(servo);
        return now.servos.target[servo];
    }

    public int servoPosition(int servo) throws IndexOutOfBoundsException {
        requireServo(servo);
        return now.servos.position[servo];
    }

    public int wear(int servo) throws IndexOutOfBoundsException {
        requireServo(servo);
        return now.servos.wear[servo];
    }

    // ---- frames

    public int send(int frames) throws IllegalArgumentException {
        requireRange(frames, 1, MOST_FRAMES);
        saveState();
        return now.transmit(frames, true);
    }

    public int lose(int frames) throws IllegalArgumentException {
        requireRange(frames, 1, MOST_FRAMES);
        saveState();
        return now.transmit(frames, false);
    }

    public int setDelay(int delay) throws IllegalArgumentException {
        requireRange(delay, 1, MOST_DELAY);
        saveState();
        int previous = now.link.delay;
        now.link.delay = delay;
        return previous;
    }

    public int charge() {
        saveState();
        int added = FULL_BATTERY - now.link.battery;
        now.link.battery = FULL_BATTERY;
        now.link.charged += added;
        return added;
    }

    public int battery() {
        return now.link.battery;
    }

    public int charged() {
        return now.link.charged;
    }

    public int frames() {
        return now.link.sent;
    }

    public int lostFrames() {
        return now.link.lost;
    }

    public int deadFrames() {
        return now.link.dead;
    }

    public int lostInRow() {
        return now.link.lostInRow;
    }

    public boolean isFailsafe() {
        return now.link.isFailsafe;
    }

    public int failsafes() {
        return now.link.failsafes;
    }

    // ---- forecasts; they change nothing

    public int reason(int servo) throws IndexOutOfBoundsException {
        requireServo(servo);
        now.computeDemands();
        if (now.servos.position[servo] == now.aimOf(servo)) {
            return 0;
        }
        return now.link.reasonForLag();
    }

    public int framesToAim(int servo) throws IndexOutOfBoundsException {
        requireServo(servo);
        now.computeDemands();
        int distance = Math.abs(now.aimOf(servo) - now.servos.position[servo]);
        int speed = Math.max(1, now.servos.speed[servo]);
        return (distance + speed - 1) / speed;
    }

    public int aimIfMoved(int stick, int position, int servo)
            throws IndexOutOfBoundsException, IllegalArgumentException {
        requireStick(stick);
        requireServo(servo);
        requireRange(position, -FULL_THROW, FULL_THROW);
        int previous = now.sticks.position[stick];
        now.sticks.position[stick] = position;
        now.computeDemands();
        int forecast = now.aimOf(servo);
        now.sticks.position[stick] = previous;
        return forecast;
    }

    public int drivenBy(int stick) throws IndexOutOfBoundsException {
        requireStick(stick);
        int driven = 0;
        // A servo takes only servos below it as sources, so one pass upwards finds them all.
        for (int servo = 0; servo < SERVOS; servo++) {
            if (now.mixes.isDriven(servo, stick, driven, now.sticks.isHigh)) {
                driven |= 1 << servo;
            }
        }
        return driven;
    }

    public int bestTrim(int stick, int servo) throws IndexOutOfBoundsException {
        requireStick(stick);
        requireServo(servo);
        int slot = now.sticks.slotOf(stick);
        int previous = now.sticks.trim[slot];
        int best = 0;
        int bestMiss = missWithTrim(slot, 0, servo);
        // The trims come in the order of preference, so a later one has to be truly better.
        for (int size = 1; size <= MOST_TRIM; size++) {
            int missAbove = missWithTrim(slot, size, servo);
            int missBelow = missWithTrim(slot, -size, servo);
            if (missAbove < bestMiss) {
                best = size;
                bestMiss = missAbove;
            }
            if (missBelow < bestMiss) {
                best = -size;
                bestMiss = missBelow;
            }
        }
        now.sticks.trim[slot] = previous;
        return best + BEST_TRIM_BASE;
    }

    public int mostWorn() {
        int worn = NONE;
        int greatest = 0;
        for (int servo = 0; servo < SERVOS; servo++) {
            if (now.servos.wear[servo] > greatest) {
                worn = servo;
                greatest = now.servos.wear[servo];
            }
        }
        return worn;
    }

    public double linkQuality() {
        if (now.link.sent == 0) {
            return 1.0;
        }
        return (double) (now.link.sent - now.link.lost) / (double) now.link.sent;
    }

    // ---- program text

    public int append(int code) throws IllegalArgumentException, IllegalStateException {
        requireRange(code, FIRST_CODE, LAST_CODE);
        if (textLength >= MOST_TEXT) {
            throw new IllegalStateException("The buffer is full.");
        }
        text[textLength] = code;
        textLength++;
        return textLength;
    }

    public int clearText() {
        int length = textLength;
        textLength = 0;
        return length;
    }

    public int firstError() {
        reader.begin();
        for (int i = 0; i < textLength; i++) {
            if (!reader.takes(text[i])) {
                return i;
            }
        }
        return textLength;
    }

    public int run() throws IllegalArgumentException {
        if (firstError() < textLength || !reader.isAtCommandEnd()) {
            throw new IllegalArgumentException("The buffer is not a complete program.");
        }
        saveState();
        int moved = 0;
        reader.begin();
        for (int i = 0; i < textLength; i++) {
            if (text[i] == ';') {
                moved += executeCommand();
            }
            reader.takes(text[i]);
        }
        moved += executeCommand();
        textLength = 0;
        return moved;
    }

    // ---- undo, memories

    public int undo() throws IllegalStateException {
        State latest = savedCount > 0 ? saved[savedSlot(savedCount - 1)] : null;
        if (latest == null) {
            throw new IllegalStateException("No state is saved.");
        }
        now.copyFrom(latest);
        savedCount--;
        return savedCount;
    }

    public int savedStates() {
        return savedCount;
    }

    public int store(int memory) throws IllegalArgumentException {
        requireRange(memory, 0, MEMORIES - 1);
        if (memories[memory] == null) {
            memories[memory] = new State();
        }
        memories[memory].copyFrom(now);
        return now.mixes.count;
    }

    public int recall(int memory) throws IllegalArgumentException, IllegalStateException {
        requireRange(memory, 0, MEMORIES - 1);
        State kept = memories[memory];
        if (kept == null) {
            throw new IllegalStateException("The memory is empty.");
        }
        saveState();
        now.copyFrom(kept);
        return now.mixes.count;
    }

    public long digest() {
        now.computeDemands();
        long hash = now.hashSticks(HASH_START);
        hash = now.hashMixes(hash);
        hash = now.hashServos(hash);
        return now.link.hashOnto(hash);
    }

    // ---- what the calls share

    private static void requireStick(int stick) {
        if (stick < 0 || stick >= STICKS) {
            throw new IndexOutOfBoundsException("There is no such stick.");
        }
    }

    private static void requireServo(int servo) {
        if (servo < 0 || servo >= SERVOS) {
            throw new IndexOutOfBoundsException("There is no such servo.");
        }
    }

    private void requireMix(int mix) {
        if (mix < 0 || mix >= now.mixes.count) {
            throw new IndexOutOfBoundsException("There is no such mix.");
        }
    }

    private static void requireRange(int value, int least, int most) {
        if (value < least || value > most) {
            throw new IllegalArgumentException("The argument is out of range.");
        }
    }

    private void requireRoomForMixes(int added) {
        if (now.mixes.count + added > MOST_MIXES) {
            throw new IllegalStateException("There are too many mixes.");
        }
    }

    private int savedSlot(int age) {
        return (oldestSaved + age) % MOST_SAVED;
    }

    private void saveState() {
        if (savedCount == MOST_SAVED) {
            oldestSaved = savedSlot(1);
            savedCount--;
        }
        int slot = savedSlot(savedCount);
        if (saved[slot] == null) {
            saved[slot] = new State();
        }
        saved[slot].copyFrom(now);
        savedCount++;
    }

    /** Leaves the trim in the slot; the caller puts the previous one back. */
    private int missWithTrim(int slot, int trim, int servo) {
        now.sticks.trim[slot] = trim;
        now.computeDemands();
        return Math.abs(now.aimOf(servo));
    }

    /** Executes the command that the reader has just read to its end. */
    private int executeCommand() {
        int number = reader.signedNumber();
        switch (reader.letter) {
            case 's':
                now.sticks.position[reader.stick] = number;
                return 0;
            case 't':
                now.sticks.trim[now.sticks.slotOf(reader.stick)] = number;
                return 0;
            case 'r':
                now.sticks.isHigh = !now.sticks.isHigh;
                return 0;
            case 'c':
                now.sticks.isCut = !now.sticks.isCut;
                return 0;
            default:
                return now.transmit(number, reader.letter == 'f');
        }
    }

    private static long hashStep(long hash, long value) {
        return 31L * hash + value;
    }

    private static void copyRow(int[] from, int[] to) {
        for (int i = 0; i < from.length && i < to.length; i++) {
            to[i] = from[i];
        }
    }

    private static void fillRow(int[] row, int value) {
        for (int i = 0; i < row.length; i++) {
            row[i] = value;
        }
    }

    private static final class Sticks {
        final int[] position = new int[STICKS];
        final int[] expo = new int[STICKS];
        /** First those for the low position of the switch, then those for the high one. */
        final int[] rate = new int[2 * STICKS];
        final int[] trim = new int[2 * STICKS];
        boolean isHigh = true;
        boolean isCut;

        Sticks() {
            fillRow(rate, 100);
        }

        void copyFrom(Sticks other) {
            copyRow(other.position, position);
            copyRow(other.expo, expo);
            copyRow(other.rate, rate);
            copyRow(other.trim, trim);
            isHigh = other.isHigh;
            isCut = other.isCut;
        }

        /** The place in rate and trim for the present position of the switch. */
        int slotOf(int stick) {
            return isHigh ? STICKS + stick : stick;
        }

        int commandOf(int stick) {
            if (stick == THROTTLE && isCut) {
                return -FULL_THROW;
            }
            int x = position[stick];
            int e = expo[stick];
            int curved = ((100 - e) * x + e * (x * x * x / 10000)) / 100;
            int slot = slotOf(stick);
            return curved * rate[slot] / 100 + trim[slot];
        }
    }

    private static final class Mixes {
        int count;
        final int[] source = new int[MOST_MIXES];
        final int[] servo = new int[MOST_MIXES];
        final int[] share = new int[MOST_MIXES];
        final int[] offset = new int[MOST_MIXES];
        final int[] condition = new int[MOST_MIXES];

        Mixes() {
            for (int stick = 0; stick < STICKS; stick++) {
                put(stick, stick, 100, 0, ALWAYS);
            }
        }

        void copyFrom(Mixes other) {
            count = other.count;
            copyRow(other.source, source);
            copyRow(other.servo, servo);
            copyRow(other.share, share);
            copyRow(other.offset, offset);
            copyRow(other.condition, condition);
        }

        /** Does nothing if there is no room; the callers look for it before. */
        void put(int newSource, int newServo, int newShare, int newOffset, int newCondition) {
            if (count >= MOST_MIXES) {
                return;
            }
            source[count] = newSource;
            servo[count] = newServo;
            share[count] = newShare;
            offset[count] = newOffset;
            condition[count] = newCondition;
            count++;
        }

        void dropAt(int mix) {
            for (int i = mix; i < count - 1; i++) {
                shift(i + 1, i);
            }
            count--;
        }

        /** Returns the number of mixes that are dropped. */
        int dropAllOf(int droppedServo) {
            int kept = 0;
            for (int i = 0; i < count; i++) {
                if (servo[i] != droppedServo) {
                    shift(i, kept);
                    kept++;
                }
            }
            int dropped = count - kept;
            count = kept;
            return dropped;
        }

        private void shift(int from, int to) {
            source[to] = source[from];
            servo[to] = servo[from];
            share[to] = share[from];
            offset[to] = offset[from];
            condition[to] = condition[from];
        }

        boolean holds(int mix, boolean isHigh) {
            if (condition[mix] == WHILE_LOW) {
                return !isHigh;
            }
            return condition[mix] == ALWAYS || isHigh;
        }

        /** Tells whether a servo is driven by the stick, or by one of the servos that are known to be driven. */
        boolean isDriven(int drivenServo, int stick, int known, boolean isHigh) {
            for (int i = 0; i < count; i++) {
                if (servo[i] == drivenServo && holds(i, isHigh) && isFrom(i, stick, known)) {
                    return true;
                }
            }
            return false;
        }

        private boolean isFrom(int mix, int stick, int known) {
            if (source[mix] < STICKS) {
                return source[mix] == stick;
            }
            return (known >> (source[mix] - STICKS) & 1) == 1;
        }
    }

    private static final class Servos {
        /** -1 if the servo is reversed, otherwise 1. */
        final int[] direction = new int[SERVOS];
        final int[] neutral = new int[SERVOS];
        final int[] low = new int[SERVOS];
        final int[] high = new int[SERVOS];
        final int[] speed = new int[SERVOS];
        final int[] mode = new int[SERVOS];
        final int[] preset = new int[SERVOS];
        final int[] target = new int[SERVOS];
        final int[] position = new int[SERVOS];
        final int[] wear = new int[SERVOS];

        Servos() {
            fillRow(direction, 1);
            fillRow(low, -100);
            fillRow(high, 100);
            fillRow(speed, MOST_SPEED);
        }

        void copyFrom(Servos other) {
            copyRow(other.direction, direction);
            copyRow(other.neutral, neutral);
            copyRow(other.low, low);
            copyRow(other.high, high);
            copyRow(other.speed, speed);
            copyRow(other.mode, mode);
            copyRow(other.preset, preset);
            copyRow(other.target, target);
            copyRow(other.position, position);
            copyRow(other.wear, wear);
        }

        int limited(int servo, int value) {
            return Math.min(Math.max(value, low[servo]), high[servo]);
        }

        void targetPresets() {
            for (int servo = 0; servo < SERVOS; servo++) {
                if (mode[servo] == PRESET) {
                    target[servo] = limited(servo, preset[servo]);
                }
            }
        }

        /** Returns the distance. */
        int advance(int servo, int mostUnits) {
            int way = target[servo] - position[servo];
            int distance = Math.min(Math.min(Math.abs(way), speed[servo]), mostUnits);
            position[servo] += way < 0 ? -distance : distance;
            wear[servo] += distance;
            return distance;
        }
    }

    private static final class Link {
        int delay = 5;
        int battery = FULL_BATTERY;
        int charged;
        int sent;
        int lost;
        int dead;
        int lostInRow;
        boolean isFailsafe;
        int failsafes;

        void copyFrom(Link other) {
            delay = other.delay;
            battery = other.battery;
            charged = other.charged;
            sent = other.sent;
            lost = other.lost;
            dead = other.dead;
            lostInRow = other.lostInRow;
            isFailsafe = other.isFailsafe;
            failsafes = other.failsafes;
        }

        void countFrame(boolean isReceived) {
            sent++;
            if (battery == 0) {
                dead++;
            }
            if (isReceived) {
                lostInRow = 0;
            } else {
                lost++;
                lostInRow++;
            }
        }

        void updateFailsafe() {
            boolean wasFailsafe = isFailsafe;
            isFailsafe = lostInRow >= delay;
            if (isFailsafe && !wasFailsafe) {
                failsafes++;
            }
        }

        /** Why a servo that is not at its aim is not there. */
        int reasonForLag() {
            if (battery == 0) {
                return 1;
            }
            if (isFailsafe) {
                return 2;
            }
            return lostInRow > 0 ? 3 : 4;
        }

        long hashOnto(long start) {
            long hash = hashStep(start, battery);
            hash = hashStep(hash, charged);
            hash = hashStep(hash, sent);
            hash = hashStep(hash, lost);
            hash = hashStep(hash, dead);
            hash = hashStep(hash, lostInRow);
            return hashStep(hash, failsafes);
        }
    }

    /** All that undo and the memories keep. */
    private static final class State {
        final Sticks sticks = new Sticks();
        final Mixes mixes = new Mixes();
        final Servos servos = new Servos();
        final Link link = new Link();
        /** A work row: computeDemands() fills it anew from the rest before each use. */
        final int[] demands = new int[SERVOS];

        void copyFrom(State other) {
            sticks.copyFrom(other.sticks);
            mixes.copyFrom(other.mixes);
            servos.copyFrom(other.servos);
            link.copyFrom(other.link);
        }

        /** Goes upwards, as a servo may have the demands of the servos below it as sources. */
        void computeDemands() {
            for (int servo = 0; servo < SERVOS; servo++) {
                int sum = 0;
                for (int mix = 0; mix < mixes.count; mix++) {
                    if (mixes.servo[mix] == servo) {
                        sum += valueOf(mix);
                    }
                }
                demands[servo] = Math.min(Math.max(sum, -MOST_DEMAND), MOST_DEMAND);
            }
        }

        /** Needs the demands of the servos below the servo of the mix. */
        int valueOf(int mix) {
            if (!mixes.holds(mix, sticks.isHigh)) {
                return 0;
            }
            int source = mixes.source[mix];
            int value = source < STICKS ? sticks.commandOf(source) : demands[source - STICKS];
            return value * mixes.share[mix] / 100 + mixes.offset[mix];
        }

        int rawAimOf(int servo) {
            return servos.neutral[servo] + servos.direction[servo] * demands[servo];
        }

        int aimOf(int servo) {
            return servos.limited(servo, rawAimOf(servo));
        }

        /** Returns the sum of the distances by which the servos move. */
        int transmit(int count, boolean isHeard) {
            computeDemands();
            int moved = 0;
            for (int i = 0; i < count; i++) {
                moved += transmitOne(isHeard);
            }
            return moved;
        }

        private int transmitOne(boolean isHeard) {
            boolean isReceived = isHeard && link.battery > 0;
            link.countFrame(isReceived);
            if (isReceived) {
                targetAims();
            }
            link.updateFailsafe();
            if (link.isFailsafe) {
                servos.targetPresets();
            }
            if (link.battery > 0) {
                link.battery--;
            }
            return advanceServos();
        }

        private void targetAims() {
            for (int servo = 0; servo < SERVOS; servo++) {
                servos.target[servo] = aimOf(servo);
            }
        }

        private int advanceServos() {
            int moved = 0;
            for (int servo = 0; servo < SERVOS; servo++) {
                if (!link.isFailsafe || servos.mode[servo] != OFF) {
                    int distance = servos.advance(servo, link.battery);
                    link.battery -= distance;
                    moved += distance;
                }
            }
            return moved;
        }

        long hashSticks(long start) {
            long hash = start;
            for (int stick = 0; stick < STICKS; stick++) {
                int slot = sticks.slotOf(stick);
                hash = hashStep(hash, sticks.position[stick]);
                hash = hashStep(hash, sticks.expo[stick]);
                hash = hashStep(hash, sticks.rate[slot]);
                hash = hashStep(hash, sticks.trim[slot]);
                hash = hashStep(hash, sticks.commandOf(stick));
            }
            hash = hashStep(hash, sticks.isHigh ? 1L : 0L);
            return hashStep(hash, sticks.isCut ? 1L : 0L);
        }

        /** Needs the demands, as hashServos does. */
        long hashMixes(long start) {
            long hash = hashStep(start, mixes.count);
            for (int mix = 0; mix < mixes.count; mix++) {
                hash = hashStep(hash, mixes.source[mix]);
                hash = hashStep(hash, mixes.servo[mix]);
                hash = hashStep(hash, valueOf(mix));
            }
            return hash;
        }

        long hashServos(long start) {
            long hash = start;
            for (int servo = 0; servo < SERVOS; servo++) {
                hash = hashStep(hash, demands[servo]);
                hash = hashStep(hash, aimOf(servo));
                hash = hashStep(hash, servos.target[servo]);
                hash = hashStep(hash, servos.position[servo]);
                hash = hashStep(hash, servos.wear[servo]);
            }
            return hash;
        }
    }

    /** Reads a program sign by sign and remembers the command that it is in. */
    private static final class CommandReader {
        private static final int AT_LETTER = 0;
        private static final int AT_STICK = 1;
        private static final int AT_EQUALS = 2;
        private static final int AT_NUMBER = 3;
        private static final int AFTER_MINUS = 4;
        private static final int IN_DIGITS = 5;
        private static final int AT_END = 6;

        private int place;
        int letter;
        int stick;
        private int most;
        private boolean isNegative;
        private int size;

        void begin() {
            place = AT_LETTER;
            isNegative = false;
            size = 0;
        }

        boolean isAtCommandEnd() {
            return place == IN_DIGITS || place == AT_END;
        }

        int signedNumber() {
            return isNegative ? -size : size;
        }

        /** Returns false if no program goes on with this sign; then nothing more can be read. */
        boolean takes(int code) {
            switch (place) {
                case AT_LETTER:
                    return takesLetter(code);
                case AT_STICK:
                    return takesStick(code);
                case AT_EQUALS:
                    return code == '=' && goesTo(AT_NUMBER);
                case AT_NUMBER:
                    return takesNumberStart(code);
                case AFTER_MINUS:
                    return takesDigit(code, 1);
                case IN_DIGITS:
                    return code == ';' ? takesSeparator(code) : takesDigit(code, 0);
                default:
                    return takesSeparator(code);
            }
        }

        private boolean goesTo(int next) {
            place = next;
            return true;
        }

        private boolean takesLetter(int code) {
            letter = code;
            switch (code) {
                case 's':
                    most = FULL_THROW;
                    return goesTo(AT_STICK);
                case 't':
                    most = MOST_TRIM;
                    return goesTo(AT_STICK);
                case 'r':
                case 'c':
                    return goesTo(AT_END);
                case 'f':
                case 'l':
                    most = MOST_FRAMES;
                    return goesTo(AT_NUMBER);
                default:
                    return false;
            }
        }

        private boolean takesStick(int code) {
            if (code < '0' || code >= '0' + STICKS) {
                return false;
            }
            stick = code - '0';
            return goesTo(AT_EQUALS);
        }

        private boolean takesNumberStart(int code) {
            // Positions and trims may be 0 or negative, numbers of frames may not.
            boolean isForStick = letter == 's' || letter == 't';
            if (isForStick && code == '-') {
                isNegative = true;
                return goesTo(AFTER_MINUS);
            }
            if (isForStick && code == '0') {
                return goesTo(AT_END);
            }
            return takesDigit(code, 1);
        }

        private boolean takesDigit(int code, int least) {
            int digit = code - '0';
            if (digit < least || digit > 9 || size * 10 + digit > most) {
                return false;
            }
            size = size * 10 + digit;
            return goesTo(IN_DIGITS);
        }

        private boolean takesSeparator(int code) {
            if (code != ';') {
                return false;
            }
            begin();
            return true;
        }
    }
}
