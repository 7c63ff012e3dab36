import java.util.ArrayList;
import java.util.List;

/** The document once more, word by word and without any shortcut, for comparison with StepperPlanner. */
final class BookPlanner {
    private static final int NO_SUCH_INDEX = -1;
    private static final int BAD_VALUE = -2;
    private static final int NOT_POSSIBLE = -3;
    private static final int FULL = -4;
    private static final int NONE = -9;

    /** T(0) to T(1000) of each acceleration that was asked for. */
    private static final long[][] ROOTS = new long[1000][];

    private record Item(boolean isWait, int ticks, int dx, int dy) {
        int length() {
            return Math.max(Math.abs(dx), Math.abs(dy));
        }
    }

    private static final class State {
        int acceleration = 100;
        int speedLimit = 200;
        int[] positions = {0, 0};
        int clock;
        List<Item> queue = new ArrayList<>();
        boolean inProgress;
        int stepsMade;
        int remaining;
        int lastIndex;

        State copy() {
            State other = new State();
            other.acceleration = acceleration;
            other.speedLimit = speedLimit;
            other.positions = positions.clone();
            other.clock = clock;
            other.queue = new ArrayList<>(queue);
            other.inProgress = inProgress;
            other.stepsMade = stepsMade;
            other.remaining = remaining;
            other.lastIndex = lastIndex;
            return other;
        }

        int setSpeedLimit(int v) {
            int previous = speedLimit;
            speedLimit = v;
            return previous;
        }

        /** The index of the next step; the first item must be a move. */
        private int nextIndex() {
            if (!inProgress) {
                return 0;
            }
            int limit = Math.min(remaining - 1, topIndex(acceleration, speedLimit));
            if (lastIndex + 1 <= limit) {
                return lastIndex + 1;
            }
            if (lastIndex <= limit) {
                return lastIndex;
            }
            return lastIndex - 1;
        }

        int nextTicks() {
            Item item = queue.get(0);
            return item.isWait ? item.ticks : intervalOf(acceleration, speedLimit, nextIndex());
        }

        int step() {
            int ticks = nextTicks();
            clock += ticks;
            Item item = queue.get(0);
            if (item.isWait) {
                queue.remove(0);
                return ticks;
            }
            int index = nextIndex();
            if (!inProgress) {
                inProgress = true;
                stepsMade = 0;
                remaining = item.length();
            }
            int[] before = {afterSteps(item, 0, stepsMade), afterSteps(item, 1, stepsMade)};
            stepsMade++;
            remaining--;
            lastIndex = index;
            for (int axis = 0; axis < 2; axis++) {
                positions[axis] += afterSteps(item, axis, stepsMade) - before[axis];
            }
            if (remaining == 0) {
                queue.remove(0);
                inProgress = false;
            }
            return ticks;
        }

        private static int afterSteps(Item item, int axis, int k) {
            int leader = Math.abs(item.dx) >= Math.abs(item.dy) ? 0 : 1;
            int distance = axis == 0 ? item.dx : item.dy;
            int length = item.length();
            int by = axis == leader ? k : Math.floorDiv(2 * k * Math.abs(distance) + length, 2 * length);
            return Integer.signum(distance) * by;
        }

        int run(int ticks) {
            int used = 0;
            int steps = 0;
            while (!queue.isEmpty() && used + nextTicks() <= ticks) {
                used += step();
                steps++;
            }
            return steps;
        }

        int stop() {
            if (!inProgress) {
                return NOT_POSSIBLE;
            }
            while (queue.size() > 1) {
                queue.remove(1);
            }
            remaining = lastIndex;
            if (remaining == 0) {
                queue.remove(0);
                inProgress = false;
            }
            return remaining;
        }
    }

    private final StringBuilder text = new StringBuilder();
    private State state = new State();
    private final ArrayList<State> remembered = new ArrayList<>();
    private final State[] slots = new State[2];

    // ---- RAMP

    static long root(int acceleration, int n) {
        if (ROOTS[acceleration] == null) {
            long[] row = new long[1001];
            for (int i = 0; i <= 1000; i++) {
                long square = 200000000L * i / acceleration;
                long t = (long) Math.sqrt((double) square);
                while (t * t > square) {
                    t--;
                }
                while ((t + 1) * (t + 1) <= square) {
                    t++;
                }
                row[i] = t;
            }
            ROOTS[acceleration] = row;
        }
        return ROOTS[acceleration][n];
    }

    static int rampInterval(int acceleration, int n) {
        return (int) (root(acceleration, n + 1) - root(acceleration, n));
    }

    static int cruiseInterval(int speedLimit) {
        int quotient = 10000 / speedLimit;
        return quotient * speedLimit == 10000 ? quotient : quotient + 1;
    }

    static int topIndex(int acceleration, int speedLimit) {
        int cruise = cruiseInterval(speedLimit);
        for (int n = 0; n <= 998; n++) {
            if (rampInterval(acceleration, n) <= cruise) {
                return n;
            }
        }
        return 999;
    }

    static int intervalOf(int acceleration, int speedLimit, int n) {
        return Math.max(rampInterval(acceleration, n), cruiseInterval(speedLimit));
    }

    private static long approximate(int acceleration, int n) {
        long a = 676 * root(acceleration, 1) / 1000;
        long r = 0;
        for (int i = 1; i <= n; i++) {
            long x = 2 * a + r;
            a = a - Math.floorDiv(x, 4L * i + 1);
            r = Math.floorMod(x, 4L * i + 1);
        }
        return a;
    }

    /** A move alone, step by step. */
    static int ticksOfMove(int acceleration, int speedLimit, int length) {
        int top = topIndex(acceleration, speedLimit);
        int ticks = 0;
        int index = 0;
        for (int left = length; left > 0; left--) {
            int limit = Math.min(left - 1, top);
            if (left < length) {
                index = index + 1 <= limit ? index + 1 : index <= limit ? index : index - 1;
            }
            ticks += intervalOf(acceleration, speedLimit, index);
        }
        return ticks;
    }

    // ---- setup text

    int append(int c) {
        if (c < 0 || c > 255) {
            return BAD_VALUE;
        }
        if (text.length() == 80) {
            return FULL;
        }
        text.append((char) c);
        return text.length();
    }

    int clearText() {
        int length = text.length();
        text.setLength(0);
        return length;
    }

    /** Whether a text can be continued to a complete setup (of any length). */
    private static boolean isBeginning(String t) {
        return t.matches("a?") || t.matches("a\\d{1,2}") || isBeginningAfterNumber(t);
    }

    private static boolean isBeginningAfterNumber(String t) {
        if (t.length() < 4 || !t.substring(0, 4).matches("a\\d{3}") || t.startsWith("a000")) {
            return false;
        }
        String rest = t.substring(4);
        if (rest.matches("v?\\d{0,2}") && (rest.isEmpty() || rest.charAt(0) == 'v')) {
            return true;
        }
        if (!rest.matches("(?s)v\\d{3}.*") || rest.startsWith("v000")) {
            return false;
        }
        rest = rest.substring(4);
        for (int items = 0; !rest.isEmpty(); items++) {
            int full = rest.charAt(0) == 'm' ? 9 : 5;
            if (items == 8) {
                return false;
            }
            if (rest.length() < full) {
                return "m+000+000".startsWith(plain(rest)) || "w0000".startsWith(plain(rest));
            }
            String item = rest.substring(0, full);
            boolean good = plain(item).equals("m+000+000") && !item.matches(".[+-]000[+-]000")
                || plain(item).equals("w0000") && !item.equals("w0000");
            if (!good) {
                return false;
            }
            rest = rest.substring(full);
        }
        return true;
    }

    private static String plain(String item) {
        StringBuilder b = new StringBuilder();
        for (char c : item.toCharArray()) {
            b.append(c >= '0' && c <= '9' ? '0' : c == '-' ? '+' : c == '0' ? '?' : c);
        }
        return b.toString();
    }

    private static boolean isComplete(String t) {
        return t.matches("a\\d{3}v\\d{3}(m[+-]\\d{3}[+-]\\d{3}|w\\d{4}){0,8}") && isBeginning(t);
    }

    int errorPosition() {
        String t = text.toString();
        if (isComplete(t)) {
            return NONE;
        }
        for (int i = 1; i <= t.length(); i++) {
            if (!isBeginning(t.substring(0, i))) {
                return i - 1;
            }
        }
        return t.length();
    }

    int load() {
        if (errorPosition() != NONE) {
            return NOT_POSSIBLE;
        }
        String t = text.toString();
        State s = new State();
        s.acceleration = Integer.parseInt(t.substring(1, 4));
        s.speedLimit = Integer.parseInt(t.substring(5, 8));
        for (int i = 8; i < t.length();) {
            if (t.charAt(i) == 'w') {
                s.queue.add(new Item(true, Integer.parseInt(t.substring(i + 1, i + 5)), 0, 0));
                i += 5;
            } else {
                s.queue.add(new Item(false, 0, Integer.parseInt(t.substring(i + 1, i + 5)),
                    Integer.parseInt(t.substring(i + 5, i + 9))));
                i += 9;
            }
        }
        state = s;
        remembered.clear();
        slots[0] = null;
        slots[1] = null;
        return s.queue.size();
    }

    // ---- state

    int position(int axis) {
        return axis == 0 || axis == 1 ? state.positions[axis] + 100000 : NO_SUCH_INDEX;
    }

    int clock() {
        return state.clock;
    }

    int queueLength() {
        return state.queue.size();
    }

    int itemAt(int i) {
        if (i < 0 || i >= state.queue.size()) {
            return NO_SUCH_INDEX;
        }
        Item item = state.queue.get(i);
        if (item.isWait) {
            return item.ticks + 10000;
        }
        return i == 0 && state.inProgress ? state.remaining : item.length();
    }

    int rampIndex() {
        return state.inProgress ? state.lastIndex : NONE;
    }

    int topIndex() {
        return topIndex(state.acceleration, state.speedLimit);
    }

    int interval(int n) {
        return n < 0 || n > 999 ? BAD_VALUE : intervalOf(state.acceleration, state.speedLimit, n);
    }

    int approximateInterval(int n) {
        return n < 0 || n > 999 ? BAD_VALUE : (int) approximate(state.acceleration, n);
    }

    // ---- actions

    private void remember() {
        remembered.add(state.copy());
        if (remembered.size() > 14) {
            remembered.remove(0);
        }
    }

    int setAcceleration(int a) {
        if (a < 1 || a > 999) {
            return BAD_VALUE;
        }
        if (state.inProgress) {
            return NOT_POSSIBLE;
        }
        remember();
        int previous = state.acceleration;
        state.acceleration = a;
        return previous;
    }

    int setSpeedLimit(int v) {
        if (v < 1 || v > 999) {
            return BAD_VALUE;
        }
        remember();
        return state.setSpeedLimit(v);
    }

    int addMove(int dx, int dy) {
        if (dx < -999 || dx > 999 || dy < -999 || dy > 999 || (dx == 0 && dy == 0)) {
            return BAD_VALUE;
        }
        return add(new Item(false, 0, dx, dy));
    }

    int addWait(int ticks) {
        if (ticks < 1 || ticks > 9999) {
            return BAD_VALUE;
        }
        return add(new Item(true, ticks, 0, 0));
    }

    private int add(Item item) {
        if (state.queue.size() == 8) {
            return FULL;
        }
        remember();
        state.queue.add(item);
        return state.queue.size();
    }

    int step() {
        if (state.queue.isEmpty()) {
            return NOT_POSSIBLE;
        }
        remember();
        return state.step();
    }

    int run(int ticks) {
        if (ticks < 1 || ticks > 99999) {
            return BAD_VALUE;
        }
        if (state.queue.isEmpty()) {
            return NOT_POSSIBLE;
        }
        remember();
        return state.run(ticks);
    }

    int stop() {
        if (!state.inProgress) {
            return NOT_POSSIBLE;
        }
        remember();
        return state.stop();
    }

    int removeItem(int i) {
        if (i < 0 || i >= state.queue.size()) {
            return NO_SUCH_INDEX;
        }
        if (i == 0 && state.inProgress) {
            return NOT_POSSIBLE;
        }
        remember();
        state.queue.remove(i);
        return state.queue.size();
    }

    int undo() {
        if (remembered.isEmpty()) {
            return NOT_POSSIBLE;
        }
        state = remembered.remove(remembered.size() - 1);
        return remembered.size();
    }

    // ---- predictions

    int ticksLeft() {
        State s = state.copy();
        int ticks = 0;
        while (!s.queue.isEmpty()) {
            ticks += s.step();
        }
        return ticks;
    }

    int moveTicks(int length) {
        return length < 1 || length > 999 ? BAD_VALUE : ticksOfMove(state.acceleration, state.speedLimit, length);
    }

    int positionAfter(int axis, int ticks) {
        if (axis != 0 && axis != 1) {
            return NO_SUCH_INDEX;
        }
        if (ticks < 0 || ticks > 99999) {
            return BAD_VALUE;
        }
        State s = state.copy();
        s.run(ticks);
        return s.positions[axis] + 100000;
    }

    int leastAcceleration(int length, int ticks) {
        if (length < 1 || length > 999 || ticks < 1 || ticks > 99999) {
            return BAD_VALUE;
        }
        for (int a = 1; a <= 999; a++) {
            if (ticksOfMove(a, state.speedLimit, length) <= ticks) {
                return a;
            }
        }
        return NONE;
    }

    int greatestLength(int ticks) {
        if (ticks < 1 || ticks > 99999) {
            return BAD_VALUE;
        }
        int greatest = NONE;
        for (int length = 1; length <= 999; length++) {
            if (ticksOfMove(state.acceleration, state.speedLimit, length) <= ticks) {
                greatest = length;
            }
        }
        return greatest;
    }

    // ---- scripts, random speeds

    int runScript(int n, long script) {
        if (n < 1 || n > 4 || script < 0 || Long.toString(script).length() > 4 * n) {
            return BAD_VALUE;
        }
        String digits = "0".repeat(4 * n - Long.toString(script).length()) + script;
        State s = state.copy();
        for (int i = 0; i < n; i++) {
            if (!succeeds(s, digits.substring(4 * i, 4 * i + 4))) {
                return i;
            }
        }
        return NONE;
    }

    private static boolean succeeds(State s, String group) {
        int xyz = Integer.parseInt(group.substring(1));
        if (group.matches("1...") && xyz != 0) {
            if (s.queue.isEmpty()) {
                return false;
            }
            for (int i = 0; i < xyz && !s.queue.isEmpty(); i++) {
                s.step();
            }
            return true;
        }
        if (group.matches("2...") && xyz != 0) {
            s.setSpeedLimit(xyz);
            return true;
        }
        if (group.equals("3000")) {
            return s.stop() >= 0;
        }
        if (group.matches("4...")) {
            return s.positions[0] == xyz;
        }
        if (group.matches("5...")) {
            return s.inProgress && s.lastIndex == xyz;
        }
        return group.matches("600.") && s.queue.size() == xyz;
    }

    int randomSpeeds(long seed, int m) {
        if (m < 1 || m > 500) {
            return BAD_VALUE;
        }
        State s = state.copy();
        long x = seed;
        int ticks = 0;
        for (int i = 0; i < m && !s.queue.isEmpty(); i++) {
            x = x * 6364136223846793005L + 1442695040888963407L;
            int v = (int) (x >>> 33);
            if (v % 4 == 0) {
                s.setSpeedLimit(v / 4 % 999 + 1);
            }
            ticks += s.step();
        }
        return ticks;
    }

    // ---- save slots

    int save(int slot) {
        if (slot != 0 && slot != 1) {
            return NO_SUCH_INDEX;
        }
        slots[slot] = state.copy();
        return state.queue.size();
    }

    int restore(int slot) {
        if (slot != 0 && slot != 1) {
            return NO_SUCH_INDEX;
        }
        if (slots[slot] == null) {
            return NOT_POSSIBLE;
        }
        state = slots[slot].copy();
        remembered.clear();
        return state.queue.size();
    }
}
