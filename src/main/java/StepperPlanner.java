/**
 * A motion planner for two stepper motors: speed profiles in timer ticks, a queue of moves and waits that is
 * executed step by step, and predictions of times and positions.
 */
public final class StepperPlanner {
    public static final int NO_SUCH_INDEX = -1;
    public static final int BAD_VALUE = -2;
    public static final int NOT_POSSIBLE = -3;
    public static final int FULL = -4;
    public static final int NONE = -9;

    private static final int MOST_ITEMS = 8;
    private static final int MOST_CHARACTERS = 80;
    private static final int MOST_REMEMBERED = 14;
    private static final int MOST_TICKS = 99999;
    private static final int MOST_WAIT_TICKS = 9999;
    private static final int MOST_RANDOM_STEPS = 500;
    private static final int MOST_COMMANDS = 4;
    /** The greatest acceleration, speed limit, distance, length and index. */
    private static final int GREATEST = 999;
    private static final int POSITION_OFFSET = 100000;
    private static final int WAIT_OFFSET = 10000;
    /** More than the ticks and the steps of any full queue. */
    private static final int UNLIMITED = 1000000000;

    private final SetupText text = new SetupText();
    private final State state = new State();
    private final State copy = new State();
    private final History history = new History();
    private final SaveSlot firstSlot = new SaveSlot();
    private final SaveSlot secondSlot = new SaveSlot();
    private final Ramp ramp = new Ramp();

    public StepperPlanner() {
    }

    // ---- setup text

    public int append(int c) {
        if (c < 0 || c > 255) {
            return BAD_VALUE;
        }
        return text.add(c) ? text.length : FULL;
    }

    public int clearText() {
        int previous = text.length;
        text.length = 0;
        return previous;
    }

    public int errorPosition() {
        return text.readInto(copy);
    }

    public int load() {
        if (text.readInto(copy) != NONE) {
            return NOT_POSSIBLE;
        }
        state.become(copy);
        history.forget();
        firstSlot.filled = false;
        secondSlot.filled = false;
        return state.count;
    }

    // ---- state

    public int position(int axis) {
        return isAxis(axis) ? state.shownPosition(axis) : NO_SUCH_INDEX;
    }

    public int clock() {
        return state.ticks;
    }

    public int queueLength() {
        return state.count;
    }

    public int itemAt(int i) {
        if (!state.hasItem(i)) {
            return NO_SUCH_INDEX;
        }
        return state.isWait(i) ? state.waits[i] + WAIT_OFFSET : state.stepsLeftOf(i);
    }

    public int rampIndex() {
        return state.isMoving() ? state.index : NONE;
    }

    public int topIndex() {
        return presentRamp().top;
    }

    public int interval(int n) {
        return isIndex(n) ? presentRamp().intervalOf(n) : BAD_VALUE;
    }

    public int approximateInterval(int n) {
        return isIndex(n) ? presentRamp().approximation(n) : BAD_VALUE;
    }

    // ---- actions

    public int setAcceleration(int a) {
        if (!isPositive(a, GREATEST)) {
            return BAD_VALUE;
        }
        if (state.isMoving()) {
            return NOT_POSSIBLE;
        }
        history.remember(state);
        int previous = state.acceleration;
        state.acceleration = a;
        return previous;
    }

    public int setSpeedLimit(int v) {
        if (!isPositive(v, GREATEST)) {
            return BAD_VALUE;
        }
        history.remember(state);
        int previous = state.speedLimit;
        state.speedLimit = v;
        return previous;
    }

    public int addMove(int dx, int dy) {
        if (!isDistance(dx) || !isDistance(dy) || dx == 0 && dy == 0) {
            return BAD_VALUE;
        }
        if (state.isFull()) {
            return FULL;
        }
        history.remember(state);
        state.addItem(dx, dy, 0);
        return state.count;
    }

    public int addWait(int ticks) {
        if (!isPositive(ticks, MOST_WAIT_TICKS)) {
            return BAD_VALUE;
        }
        if (state.isFull()) {
            return FULL;
        }
        history.remember(state);
        state.addItem(0, 0, ticks);
        return state.count;
    }

    public int step() {
        if (state.count == 0) {
            return NOT_POSSIBLE;
        }
        history.remember(state);
        int before = state.ticks;
        state.advance(ramp, 1, UNLIMITED);
        return state.ticks - before;
    }

    public int run(int ticks) {
        if (!isPositive(ticks, MOST_TICKS)) {
            return BAD_VALUE;
        }
        if (state.count == 0) {
            return NOT_POSSIBLE;
        }
        history.remember(state);
        return state.advance(ramp, UNLIMITED, ticks);
    }

    public int stop() {
        if (!state.isMoving()) {
            return NOT_POSSIBLE;
        }
        history.remember(state);
        return state.halt();
    }

    public int removeItem(int i) {
        if (!state.hasItem(i)) {
            return NO_SUCH_INDEX;
        }
        if (i == 0 && state.isMoving()) {
            return NOT_POSSIBLE;
        }
        history.remember(state);
        state.dropItem(i);
        return state.count;
    }

    public int undo() {
        return history.takeBack(state) ? history.count : NOT_POSSIBLE;
    }

    // ---- predictions

    public int ticksLeft() {
        copy.become(state);
        copy.advance(ramp, UNLIMITED, UNLIMITED);
        return copy.ticks - state.ticks;
    }

    public int moveTicks(int length) {
        return isPositive(length, GREATEST) ? presentRamp().ticksOfMove(length) : BAD_VALUE;
    }

    public int positionAfter(int axis, int ticks) {
        if (!isAxis(axis)) {
            return NO_SUCH_INDEX;
        }
        if (ticks < 0 || ticks > MOST_TICKS) {
            return BAD_VALUE;
        }
        copy.become(state);
        copy.advance(ramp, UNLIMITED, ticks);
        return copy.shownPosition(axis);
    }

    public int leastAcceleration(int length, int ticks) {
        if (!isPositive(length, GREATEST) || !isPositive(ticks, MOST_TICKS)) {
            return BAD_VALUE;
        }
        int cruise = Profile.cruiseInterval(state.speedLimit);
        // No step is shorter than the cruise interval.
        if (length * cruise > ticks) {
            return NONE;
        }
        for (int a = Profile.leastCandidate(cruise, length, ticks); a <= GREATEST; a++) {
            if (Profile.ticksOfMove(a, cruise, length) <= ticks) {
                return a;
            }
        }
        return NONE;
    }

    public int greatestLength(int ticks) {
        if (!isPositive(ticks, MOST_TICKS)) {
            return BAD_VALUE;
        }
        Ramp present = presentRamp();
        int fits = 0;
        int tooLong = GREATEST + 1;
        // A longer move has all the intervals of a shorter one and more.
        for (int round = 0; round < GREATEST && tooLong - fits > 1; round++) {
            int length = (fits + tooLong) / 2;
            if (present.ticksOfMove(length) <= ticks) {
                fits = length;
            } else {
                tooLong = length;
            }
        }
        return fits > 0 ? fits : NONE;
    }

    // ---- scripts, random speeds

    public int runScript(int n, long script) {
        if (!isPositive(n, MOST_COMMANDS) || script < 0) {
            return BAD_VALUE;
        }
        long unit = 1;
        for (int i = 0; i < n; i++) {
            unit *= 10000;
        }
        if (script >= unit) {
            return BAD_VALUE;
        }
        copy.become(state);
        for (int i = 0; i < n && unit > 1; i++) {
            unit /= 10000;
            if (!succeeds((int) (script / Math.max(unit, 1) % 10000))) {
                return i;
            }
        }
        return NONE;
    }

    public int randomSpeeds(long seed, int m) {
        if (!isPositive(m, MOST_RANDOM_STEPS)) {
            return BAD_VALUE;
        }
        copy.become(state);
        long x = seed;
        for (int made = 0; made < m && copy.count > 0; made++) {
            x = x * 6364136223846793005L + 1442695040888963407L;
            int v = (int) (x >>> 33);
            if (v % 4 == 0) {
                copy.speedLimit = v / 4 % 999 + 1;
            }
            copy.advance(ramp, 1, UNLIMITED);
        }
        return copy.ticks - state.ticks;
    }

    // ---- save slots

    public int save(int slot) {
        if (!isSlot(slot)) {
            return NO_SUCH_INDEX;
        }
        SaveSlot chosen = slotAt(slot);
        chosen.state.become(state);
        chosen.filled = true;
        return state.count;
    }

    public int restore(int slot) {
        if (!isSlot(slot)) {
            return NO_SUCH_INDEX;
        }
        SaveSlot chosen = slotAt(slot);
        if (!chosen.filled) {
            return NOT_POSSIBLE;
        }
        state.become(chosen.state);
        history.forget();
        return state.count;
    }

    // ---- helpers

    private static boolean isAxis(int axis) {
        return axis == 0 || axis == 1;
    }

    private static boolean isSlot(int slot) {
        return slot == 0 || slot == 1;
    }

    private static boolean isIndex(int n) {
        return n >= 0 && n <= GREATEST;
    }

    private static boolean isPositive(int value, int greatest) {
        return value >= 1 && value <= greatest;
    }

    private static boolean isDistance(int value) {
        return value >= -GREATEST && value <= GREATEST;
    }

    private SaveSlot slotAt(int slot) {
        return slot == 0 ? firstSlot : secondSlot;
    }

    private Ramp presentRamp() {
        ramp.prepare(state.acceleration, state.speedLimit);
        return ramp;
    }

    /** Runs one command of a script on the copy. */
    private boolean succeeds(int group) {
        int number = group % 1000;
        switch (group / 1000) {
            case 1:
                return number > 0 && copy.advance(ramp, number, UNLIMITED) > 0;
            case 2:
                if (number > 0) {
                    copy.speedLimit = number;
                }
                return number > 0;
            case 3:
                if (number > 0 || !copy.isMoving()) {
                    return false;
                }
                copy.halt();
                return true;
            case 4:
                return copy.x == number;
            case 5:
                return copy.isMoving() && copy.index == number;
            case 6:
                return copy.count == number;
            default:
                return false;
        }
    }

    /** The sums of ramp intervals, T(n), and what follows from them without a table. */
    private static final class Profile {
        private static final long SQUARE_FACTOR = 200000000L;
        /** Not less than T(1000) for the acceleration 1. */
        private static final int GREATEST_ROOT = 447214;

        /** T(n) for an acceleration; the start must be positive and not less than T(n). */
        static int root(int acceleration, int n, int start) {
            if (acceleration < 1 || n < 1) {
                return 0;
            }
            long number = SQUARE_FACTOR * n / acceleration;
            long guess = start;
            // Newton's method falls from any greater start down to the root, and falls no more there.
            for (int round = 0; round < 64 && guess > 0; round++) {
                long next = (guess + number / guess) / 2;
                if (next >= guess) {
                    break;
                }
                guess = next;
            }
            return (int) guess;
        }

        /** T(n + 1), if the root is T(n). */
        static int rootAfter(int acceleration, int n, int root) {
            // The exact root of n + 1 is less than 1 + 1 / (2 * n) times that of n.
            int start = n < 1 ? GREATEST_ROOT : root + 1 + (root + 1) / (2 * n);
            return root(acceleration, n + 1, start);
        }

        static int cruiseInterval(int speedLimit) {
            return speedLimit < 1 ? 10000 : (10000 + speedLimit - 1) / speedLimit;
        }

        /**
         * A number of indices, at most the bound, that are all less than the top index. With e(n) for the exact root,
         * e(n + 1) - e(n) > e(1) * e(1) / (2 * e(n + 1)), and R(n) is greater than that difference less 1.
         */
        static int rampAtLeast(int acceleration, int cruise, int bound) {
            long divisor = 4L * acceleration * (cruise + 1) * (cruise + 1);
            return divisor < 1 ? 0 : (int) Math.min(bound, SQUARE_FACTOR / divisor);
        }

        /** For each j below the length a move has an index j / 2 or the top index, whichever is less. */
        static int ticksOfMove(int acceleration, int cruise, int length) {
            int half = length / 2;
            int n = rampAtLeast(acceleration, cruise, half);
            int low = root(acceleration, n, GREATEST_ROOT);
            int high = rootAfter(acceleration, n, low);
            while (n < half && high - low > cruise) {
                n++;
                low = high;
                high = rootAfter(acceleration, n, low);
            }
            return 2 * low + (length - 2 * n) * Math.max(high - low, cruise);
        }

        /**
         * An acceleration such that with each smaller one a move takes too many ticks. From the top index on no ramp
         * interval is longer than the cruise interval by more than 1, so the ticks are at least
         * 2 * T(length / 2) * cruise / (cruise + 1).
         */
        static int leastCandidate(int cruise, int length, int ticks) {
            if (cruise < 1) {
                return 1;
            }
            long tooMuch = (long) ticks * (cruise + 1) / (2 * cruise) + 1;
            long square = tooMuch * tooMuch;
            return square < 1 ? 1 : (int) Math.min(GREATEST, SQUARE_FACTOR * (length / 2) / square) + 1;
        }
    }

    /** The intervals for one acceleration and one speed limit at a time. */
    private static final class Ramp {
        private int acceleration;
        private int speedLimit;
        private int cruise;
        int top;
        /** T(0) to T(1000). */
        private final int[] roots = new int[GREATEST + 2];

        void prepare(int newAcceleration, int newSpeedLimit) {
            if (acceleration == newAcceleration && speedLimit == newSpeedLimit) {
                return;
            }
            if (acceleration != newAcceleration) {
                acceleration = newAcceleration;
                fillRoots();
            }
            speedLimit = newSpeedLimit;
            cruise = Profile.cruiseInterval(speedLimit);
            top = findTop();
        }

        private void fillRoots() {
            for (int n = 0; n + 1 < roots.length; n++) {
                roots[n + 1] = Profile.rootAfter(acceleration, n, roots[n]);
            }
        }

        private int findTop() {
            int n = Profile.rampAtLeast(acceleration, cruise, GREATEST);
            while (n < GREATEST && rampInterval(n) > cruise) {
                n++;
            }
            return n;
        }

        private int rampInterval(int n) {
            return n < 0 || n + 1 >= roots.length ? 0 : roots[n + 1] - roots[n];
        }

        int intervalOf(int n) {
            return Math.max(rampInterval(n), cruise);
        }

        int ticksOfMove(int length) {
            int n = Math.min(length / 2, top);
            if (n < 0 || n >= roots.length) {
                return 0;
            }
            return 2 * roots[n] + (length - 2 * n) * intervalOf(n);
        }

        int approximation(int n) {
            int answer = 676 * roots[1] / 1000;
            int rest = 0;
            for (int i = 1; i <= n; i++) {
                int x = 2 * answer + rest;
                answer -= x / (4 * i + 1);
                rest = x % (4 * i + 1);
            }
            return answer;
        }
    }

    /** What undo, save and the predictions keep or copy. */
    private static final class State {
        int acceleration = 100;
        int speedLimit = 200;
        int x;
        int y;
        int ticks;
        int count;
        private final int[] distancesX = new int[MOST_ITEMS];
        private final int[] distancesY = new int[MOST_ITEMS];
        /** The ticks of a wait, 0 for a move. */
        final int[] waits = new int[MOST_ITEMS];
        /** The steps made of the move in progress; 0 if none is in progress. */
        private int made;
        /** The steps that remain of the move in progress. */
        private int left;
        /** The index of the step that was made last in the move in progress. */
        int index;

        void become(State other) {
            acceleration = other.acceleration;
            speedLimit = other.speedLimit;
            x = other.x;
            y = other.y;
            ticks = other.ticks;
            count = other.count;
            made = other.made;
            left = other.left;
            index = other.index;
            for (int i = 0; i < count && i < MOST_ITEMS; i++) {
                distancesX[i] = other.distancesX[i];
                distancesY[i] = other.distancesY[i];
                waits[i] = other.waits[i];
            }
        }

        /** Empties the queue and sets the positions and the clock to 0. */
        void clear() {
            x = 0;
            y = 0;
            ticks = 0;
            count = 0;
            made = 0;
        }

        int shownPosition(int axis) {
            return (axis == 0 ? x : y) + POSITION_OFFSET;
        }

        boolean isFull() {
            return count >= MOST_ITEMS;
        }

        boolean isMoving() {
            return made > 0;
        }

        boolean hasItem(int i) {
            return i >= 0 && i < count && i < MOST_ITEMS;
        }

        boolean isWait(int i) {
            return hasItem(i) && waits[i] > 0;
        }

        private int lengthOf(int i) {
            return hasItem(i) ? Math.max(Math.abs(distancesX[i]), Math.abs(distancesY[i])) : 0;
        }

        int stepsLeftOf(int i) {
            return i == 0 && isMoving() ? left : lengthOf(i);
        }

        void addItem(int dx, int dy, int wait) {
            if (isFull() || count < 0) {
                return;
            }
            distancesX[count] = dx;
            distancesY[count] = dy;
            waits[count] = wait;
            count++;
        }

        void dropItem(int i) {
            if (!hasItem(i)) {
                return;
            }
            if (i == 0) {
                made = 0;
            }
            count--;
            for (int k = i; k < count && k + 1 < MOST_ITEMS; k++) {
                distancesX[k] = distancesX[k + 1];
                distancesY[k] = distancesY[k + 1];
                waits[k] = waits[k + 1];
            }
        }

        /** Stops the move in progress and answers how many of its steps remain. */
        int halt() {
            count = 1;
            left = index;
            if (left == 0) {
                dropItem(0);
            }
            return index;
        }

        /** Makes at most so many steps that take at most so many ticks together, and answers how many it made. */
        int advance(Ramp ramp, int mostSteps, int mostTicks) {
            ramp.prepare(acceleration, speedLimit);
            int start = ticks;
            int steps = 0;
            // A round ends the first item, or makes the last step that is allowed.
            for (int round = 0; round < MOST_ITEMS && count > 0; round++) {
                int ticksAllowed = mostTicks - (ticks - start);
                int more = isWait(0) ? passWait(mostSteps - steps, ticksAllowed)
                    : advanceMove(ramp, mostSteps - steps, ticksAllowed);
                if (more == 0) {
                    break;
                }
                steps += more;
            }
            return steps;
        }

        private int passWait(int mostSteps, int mostTicks) {
            if (mostSteps < 1 || waits[0] > mostTicks) {
                return 0;
            }
            ticks += waits[0];
            dropItem(0);
            return 1;
        }

        private int advanceMove(Ramp ramp, int mostSteps, int mostTicks) {
            int before = made;
            if (before == 0) {
                left = lengthOf(0);
            }
            // The dearest predictions pass over many whole moves, whose ticks are known without their steps.
            int wholeTicks = ramp.ticksOfMove(left);
            if (before == 0 && left <= mostSteps && wholeTicks <= mostTicks) {
                passWholeMove(wholeTicks);
            } else {
                makeSteps(ramp, Math.min(mostSteps, left), mostTicks);
            }
            int steps = made - before;
            moveAxes(before);
            if (left == 0) {
                dropItem(0);
            }
            return steps;
        }

        private void passWholeMove(int wholeTicks) {
            ticks += wholeTicks;
            made = left;
            left = 0;
        }

        private void makeSteps(Ramp ramp, int mostSteps, int mostTicks) {
            int ticksAllowed = mostTicks;
            for (int i = 0; i < mostSteps; i++) {
                int next = nextIndex(ramp.top);
                int interval = ramp.intervalOf(next);
                if (interval > ticksAllowed) {
                    break;
                }
                ticksAllowed -= interval;
                index = next;
                made++;
                left--;
            }
            ticks += mostTicks - ticksAllowed;
        }

        private int nextIndex(int top) {
            if (made == 0) {
                return 0;
            }
            int limit = Math.min(left - 1, top);
            if (index + 1 <= limit) {
                return index + 1;
            }
            return index <= limit ? index : index - 1;
        }

        /** Moves the axes from where they were after so many steps of the first move to where they are now. */
        private void moveAxes(int before) {
            int length = lengthOf(0);
            x += way(distancesX[0], length, made) - way(distancesX[0], length, before);
            y += way(distancesY[0], length, made) - way(distancesY[0], length, before);
        }

        /** The follower's formula gives the leader as many steps as were made. */
        private static int way(int distance, int length, int steps) {
            if (length < 1) {
                return 0;
            }
            int amount = (2 * steps * Math.abs(distance) + length) / (2 * length);
            return distance < 0 ? -amount : amount;
        }
    }

    /** The states before the last actions, in a ring. */
    private static final class History {
        private final State[] ring = new State[MOST_REMEMBERED];
        /** The place after the newest state, counted on around the ring. */
        private int end;
        int count;

        History() {
            for (int i = 0; i < ring.length; i++) {
                ring[i] = new State();
            }
        }

        private State at(int place) {
            return ring[Math.floorMod(place, MOST_REMEMBERED)];
        }

        void remember(State state) {
            at(end).become(state);
            end++;
            count = Math.min(count + 1, MOST_REMEMBERED);
        }

        /** Answers whether there was a state to take back. */
        boolean takeBack(State state) {
            if (count == 0) {
                return false;
            }
            count--;
            end--;
            state.become(at(end));
            return true;
        }

        void forget() {
            count = 0;
        }
    }

    private static final class SaveSlot {
        final State state = new State();
        boolean filled;
    }

    /** The text buffer and its reader, which keeps the first fault that it finds. */
    private static final class SetupText {
        private final int[] characters = new int[MOST_CHARACTERS];
        int length;
        private int at;
        private int fault;

        boolean add(int c) {
            if (length < 0 || length >= characters.length) {
                return false;
            }
            characters[length] = c;
            length++;
            return true;
        }

        /** Reads the text as a setup and answers the error position, or NONE; the state holds the setup then. */
        int readInto(State state) {
            at = 0;
            fault = NONE;
            state.clear();
            takeLetter('a');
            state.acceleration = takePositive(3);
            takeLetter('v');
            state.speedLimit = takePositive(3);
            // One round more than there may be items, so that a ninth one is found.
            for (int i = 0; i <= MOST_ITEMS && fault == NONE && at < length; i++) {
                takeItem(state);
            }
            return fault;
        }

        private void takeItem(State state) {
            int c = present();
            if (state.isFull() || c != 'm' && c != 'w') {
                failAt(at);
                return;
            }
            at++;
            if (c == 'w') {
                state.addItem(0, 0, takePositive(4));
                return;
            }
            int dx = takeDistance();
            int dy = takeDistance();
            if (dx == 0 && dy == 0) {
                failAt(at - 1);
            }
            state.addItem(dx, dy, 0);
        }

        private int present() {
            return at >= 0 && at < length && at < characters.length ? characters[at] : NONE;
        }

        /** Later faults follow from the first one and do not count. */
        private void failAt(int position) {
            if (fault == NONE) {
                fault = position;
            }
        }

        private void takeLetter(int letter) {
            if (present() == letter) {
                at++;
            } else {
                failAt(at);
            }
        }

        private int takeDistance() {
            int sign = present();
            if (sign != '+' && sign != '-') {
                failAt(at);
                return 0;
            }
            at++;
            int amount = takeDigits(3);
            return sign == '-' ? -amount : amount;
        }

        private int takePositive(int digits) {
            int value = takeDigits(digits);
            if (value == 0) {
                failAt(at - 1);
            }
            return value;
        }

        private int takeDigits(int digits) {
            int value = 0;
            for (int i = 0; i < digits; i++) {
                int c = present();
                if (c < '0' || c > '9') {
                    failAt(at);
                    return 0;
                }
                value = value * 10 + (c - '0');
                at++;
            }
            return value;
        }
    }
}
