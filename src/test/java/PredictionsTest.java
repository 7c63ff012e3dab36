/** Promises 23 to 27: ticksLeft, moveTicks, positionAfter, leastAcceleration, greatestLength. */
public final class PredictionsTest {
    private static final int BAD_VALUE = StepperPlanner.BAD_VALUE;
    private static final int NONE = StepperPlanner.NONE;

    public static void main(String[] args) {
        promise23TicksLeft();
        promise23TicksLeftOfLongQueue();
        promise24MoveTicks();
        promise24MoveTicksByStep();
        promise25PositionAfter();
        promise25PositionAfterLikeRun();
        promise26LeastAcceleration();
        promise26LeastIsLeast();
        promise27GreatestLength();
        promise27GreatestIsGreatest();
        predictionsChangeNothing();
        Check.end();
    }

    private static void promise23TicksLeft() {
        StepperPlanner p = new StepperPlanner();
        Check.due("ticksLeft(), empty", p.ticksLeft(), 0);
        p.addWait(40);
        Check.due("ticksLeft()", p.ticksLeft(), 40);
        p.addMove(3, -1);
        Check.due("ticksLeft()", p.ticksLeft(), 3454);
        p.addMove(0, 2);
        Check.due("ticksLeft()", p.ticksLeft(), 6282);
        p.step();
        p.step();
        Check.due("ticksLeft() in the move", p.ticksLeft(), 4828);
        p.setSpeedLimit(10);
        Check.due("ticksLeft() with a lower limit", p.ticksLeft(), 1000 + 1414 + 2828);
        Check.due("stop()", p.stop(), 0);
        Check.due("ticksLeft() after stop()", p.ticksLeft(), 0);
    }

    private static void promise23TicksLeftOfLongQueue() {
        StepperPlanner p = new StepperPlanner();
        p.setAcceleration(1);
        p.setSpeedLimit(1);
        for (int i = 0; i < 8; i++) {
            p.addMove(i - 4 < 0 ? 999 : -5, 999);
        }
        // 2 * 14142 + 997 * 10000 each
        Check.due("ticksLeft()", p.ticksLeft(), 8 * 9998284);
        p.addMove(1, 1);
        p.setSpeedLimit(999);
        int once = p.moveTicks(999);
        Check.due("ticksLeft(), fast", p.ticksLeft(), 8 * once);
        Check.due("clock()", p.clock(), 0);
        Check.due("queueLength()", p.queueLength(), 8);
    }

    private static void promise24MoveTicks() {
        StepperPlanner p = new StepperPlanner();
        Check.due("moveTicks(0)", p.moveTicks(0), BAD_VALUE);
        Check.due("moveTicks(1000)", p.moveTicks(1000), BAD_VALUE);
        Check.due("moveTicks(-3)", p.moveTicks(-3), BAD_VALUE);
        Check.due("moveTicks(least)", p.moveTicks(Integer.MIN_VALUE), BAD_VALUE);
        Check.due("moveTicks(greatest)", p.moveTicks(Integer.MAX_VALUE), BAD_VALUE);
        int[] ticks = {1414, 2828, 3414, 4000, 4449, 4898};
        for (int i = 0; i < ticks.length; i++) {
            Check.due("moveTicks(" + (i + 1) + ")", p.moveTicks(i + 1), ticks[i]);
        }
        // 2 * T(195) + 609 * 50, T(195) = 19748
        Check.due("moveTicks(999)", p.moveTicks(999), 69946);
        p.setSpeedLimit(10);
        Check.due("moveTicks(3), slow", p.moveTicks(3), 3828);
        Check.due("moveTicks(10), slow", p.moveTicks(10), 10828);
        p.setSpeedLimit(1);
        Check.due("moveTicks(2), slower than the first step", p.moveTicks(2), 20000);
        Check.due("moveTicks(999), slowest", p.moveTicks(999), 9990000);
    }

    private static void promise24MoveTicksByStep() {
        int[][] settings = {{100, 200}, {999, 999}, {1, 1}, {1, 999}, {999, 1}, {500, 700}, {100, 37}};
        for (int[] s : settings) {
            for (int length = 1; length <= 999; length += 1 + length / 5) {
                StepperPlanner p = new StepperPlanner();
                p.setAcceleration(s[0]);
                p.setSpeedLimit(s[1]);
                p.addMove(-length, length - 1);
                String name = "moveTicks(" + length + ") of a " + s[0] + ", v " + s[1];
                Check.due(name + ": ticksLeft()", p.ticksLeft(), p.moveTicks(length));
                int ticks = 0;
                for (int i = 0; i < Math.min(length, 300); i++) {
                    ticks += p.step();
                }
                Check.due(name + " by steps", ticks + p.ticksLeft(), p.moveTicks(length));
            }
        }
    }

    private static void promise25PositionAfter() {
        StepperPlanner p = new StepperPlanner();
        Check.due("positionAfter(-1, 5)", p.positionAfter(-1, 5), StepperPlanner.NO_SUCH_INDEX);
        Check.due("positionAfter(2, 5)", p.positionAfter(2, 5), StepperPlanner.NO_SUCH_INDEX);
        Check.due("positionAfter(2, -1)", p.positionAfter(2, -1), StepperPlanner.NO_SUCH_INDEX);
        Check.due("positionAfter(0, -1)", p.positionAfter(0, -1), BAD_VALUE);
        Check.due("positionAfter(1, 100000)", p.positionAfter(1, 100000), BAD_VALUE);
        Check.due("positionAfter(1, least)", p.positionAfter(1, Integer.MIN_VALUE), BAD_VALUE);
        Check.due("positionAfter(1, greatest)", p.positionAfter(1, Integer.MAX_VALUE), BAD_VALUE);
        Check.due("positionAfter(0, 0), empty", p.positionAfter(0, 0), 100000);
        Check.due("positionAfter(1, 99999), empty", p.positionAfter(1, 99999), 100000);
        p.addMove(4, -2);
        p.addWait(10);
        p.addMove(-1, 0);
        Check.due("positionAfter(0, 0)", p.positionAfter(0, 0), 100000);
        Check.due("positionAfter(0, 1413)", p.positionAfter(0, 1413), 100000);
        Check.due("positionAfter(0, 1414)", p.positionAfter(0, 1414), 100001);
        Check.due("positionAfter(1, 1414)", p.positionAfter(1, 1414), 99999);
        Check.due("positionAfter(0, 3999)", p.positionAfter(0, 3999), 100003);
        Check.due("positionAfter(0, 5423)", p.positionAfter(0, 5423), 100004);
        Check.due("positionAfter(0, 5424)", p.positionAfter(0, 5424), 100003);
        Check.due("positionAfter(1, 99999)", p.positionAfter(1, 99999), 99998);
        p.step();
        Check.due("positionAfter(0, 0) in the move", p.positionAfter(0, 0), 100001);
        Check.due("positionAfter(0, 586) in the move", p.positionAfter(0, 586), 100002);
    }

    private static void promise25PositionAfterLikeRun() {
        for (int ticks = 1; ticks <= 99999; ticks += 1 + ticks / 3) {
            StepperPlanner p = new StepperPlanner();
            p.setSpeedLimit(999);
            p.addMove(-300, 700);
            p.addWait(999);
            p.addMove(900, 899);
            int x = p.positionAfter(0, ticks);
            int y = p.positionAfter(1, ticks);
            p.run(ticks);
            Check.due("positionAfter(0, " + ticks + ")", x, p.position(0));
            Check.due("positionAfter(1, " + ticks + ")", y, p.position(1));
        }
    }

    private static void promise26LeastAcceleration() {
        StepperPlanner p = new StepperPlanner();
        int[][] bad = {{0, 5}, {1000, 5}, {-1, 5}, {5, 0}, {5, 100000}, {5, -1}, {0, 0}, {Integer.MIN_VALUE, 5},
            {5, Integer.MIN_VALUE}, {Integer.MAX_VALUE, 5}, {5, Integer.MAX_VALUE}};
        for (int[] b : bad) {
            Check.due("leastAcceleration(" + b[0] + ", " + b[1] + ")", p.leastAcceleration(b[0], b[1]), BAD_VALUE);
        }
        Check.due("leastAcceleration(5, 5000)", p.leastAcceleration(5, 5000), 80);
        Check.due("leastAcceleration(5, 10)", p.leastAcceleration(5, 10), NONE);
        // T(1) is floor(sqrt(floor(200000000 / a)))
        Check.due("leastAcceleration(1, 14142)", p.leastAcceleration(1, 14142), 1);
        Check.due("leastAcceleration(1, 14141)", p.leastAcceleration(1, 14141), 2);
        Check.due("leastAcceleration(1, 447)", p.leastAcceleration(1, 447), 997);
        Check.due("leastAcceleration(1, 446)", p.leastAcceleration(1, 446), NONE);
        Check.due("leastAcceleration(2, 894)", p.leastAcceleration(2, 894), 997);
        Check.due("leastAcceleration(2, 893)", p.leastAcceleration(2, 893), NONE);
        Check.due("leastAcceleration(1, 1)", p.leastAcceleration(1, 1), NONE);
        Check.due("leastAcceleration(999, 99999)", p.leastAcceleration(999, 99999), 40);
        Check.due("leastAcceleration(999, 49949)", p.leastAcceleration(999, 49949), NONE);
        Check.due("leastAcceleration(8, 1788)", p.leastAcceleration(8, 1788), 999);
        Check.due("leastAcceleration(8, 1787)", p.leastAcceleration(8, 1787), NONE);
        Check.due("leastAcceleration(85, 6252)", p.leastAcceleration(85, 6252), 999);
        p.setSpeedLimit(20);
        // T(1) is 707 from 399 on, and longer than the cruise interval.
        Check.due("leastAcceleration(2, 1414)", p.leastAcceleration(2, 1414), 399);
        p.undo();
        p.setAcceleration(1);
        Check.due("leastAcceleration(5, 5000): not the present one", p.leastAcceleration(5, 5000), 80);
        p.setSpeedLimit(1);
        Check.due("leastAcceleration(5, 50000), slow", p.leastAcceleration(5, 50000), 2);
        Check.due("leastAcceleration(5, 49999), slow", p.leastAcceleration(5, 49999), NONE);
        Check.due("leastAcceleration(9, 99999), slow", p.leastAcceleration(9, 99999), 1);
        Check.due("leastAcceleration(10, 99999), slow", p.leastAcceleration(10, 99999), NONE);
    }

    /** Compares with moveTicks for each acceleration. */
    private static void promise26LeastIsLeast() {
        int[][] settings = {{100, 999}, {999, 999}, {37, 150}, {400, 600}, {2, 999}, {3, 80}};
        for (int[] s : settings) {
            int[] ticks = new int[1000];
            for (int part = 0; part < 999; part += 111) {
                StepperPlanner p = new StepperPlanner();
                p.setSpeedLimit(s[1]);
                for (int a = part + 1; a <= part + 111; a++) {
                    p.setAcceleration(a);
                    ticks[a] = p.moveTicks(s[0]);
                }
            }
            StepperPlanner p = new StepperPlanner();
            p.setSpeedLimit(s[1]);
            for (int a = 1; a <= 999; a += 9) {
                for (int t = ticks[a] - 1; t <= ticks[a] && t <= 99999; t++) {
                    Check.due("leastAcceleration(" + s[0] + ", " + t + ") of v " + s[1],
                        p.leastAcceleration(s[0], t), firstAtMost(ticks, t));
                }
            }
        }
    }

    private static int firstAtMost(int[] ticks, int bound) {
        for (int a = 1; a < ticks.length; a++) {
            if (ticks[a] <= bound) {
                return a;
            }
        }
        return NONE;
    }

    private static void promise27GreatestLength() {
        StepperPlanner p = new StepperPlanner();
        int[] bad = {0, -1, 100000, Integer.MIN_VALUE, Integer.MAX_VALUE};
        for (int ticks : bad) {
            Check.due("greatestLength(" + ticks + ")", p.greatestLength(ticks), BAD_VALUE);
        }
        Check.due("greatestLength(1)", p.greatestLength(1), NONE);
        Check.due("greatestLength(1413)", p.greatestLength(1413), NONE);
        Check.due("greatestLength(1414)", p.greatestLength(1414), 1);
        Check.due("greatestLength(2827)", p.greatestLength(2827), 1);
        Check.due("greatestLength(2828)", p.greatestLength(2828), 2);
        Check.due("greatestLength(5000)", p.greatestLength(5000), 6);
        Check.due("greatestLength(69945)", p.greatestLength(69945), 998);
        Check.due("greatestLength(69946)", p.greatestLength(69946), 999);
        Check.due("greatestLength(99999)", p.greatestLength(99999), 999);
        p.setSpeedLimit(1);
        Check.due("greatestLength(99999), slow", p.greatestLength(99999), 9);
        Check.due("greatestLength(9999), slow", p.greatestLength(9999), NONE);
        p.setAcceleration(1);
        Check.due("greatestLength(99999), slowest", p.greatestLength(99999), 9);
        Check.due("greatestLength(14141), slowest", p.greatestLength(14141), NONE);
    }

    private static void promise27GreatestIsGreatest() {
        int[][] settings = {{100, 200}, {999, 999}, {20, 300}, {600, 45}};
        for (int[] s : settings) {
            StepperPlanner p = new StepperPlanner();
            p.setAcceleration(s[0]);
            p.setSpeedLimit(s[1]);
            for (int length = 1; length < 999; length += 11) {
                int ticks = p.moveTicks(length);
                if (ticks <= 99999) {
                    String name = " of a " + s[0] + ", v " + s[1];
                    Check.due("greatestLength(" + ticks + ")" + name, p.greatestLength(ticks), length);
                    int less = length == 1 ? NONE : length - 1;
                    Check.due("greatestLength(" + (ticks - 1) + ")" + name, p.greatestLength(ticks - 1), less);
                }
            }
        }
    }

    private static void predictionsChangeNothing() {
        StepperPlanner p = new StepperPlanner();
        p.addMove(30, -20);
        p.addWait(9);
        p.run(2000);
        p.ticksLeft();
        p.moveTicks(99);
        p.positionAfter(0, 99999);
        p.leastAcceleration(99, 9999);
        p.greatestLength(9999);
        Check.due("position(0)", p.position(0), 100002);
        Check.due("position(1)", p.position(1), 99999);
        Check.due("clock()", p.clock(), 2000);
        Check.due("rampIndex()", p.rampIndex(), 1);
        Check.due("queueLength()", p.queueLength(), 2);
        Check.due("itemAt(0)", p.itemAt(0), 28);
        Check.due("itemAt(1)", p.itemAt(1), 10009);
        Check.due("topIndex()", p.topIndex(), 195);
        Check.due("undo()", p.undo(), 2);
        Check.due("undo()", p.undo(), 1);
    }
}
