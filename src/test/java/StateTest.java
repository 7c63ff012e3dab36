/** Promises 1 and 6 to 13: a new object, position, clock, queueLength, itemAt, rampIndex, topIndex, both intervals. */
public final class StateTest {
    public static void main(String[] args) {
        promise1NewObject();
        promise6Position();
        promise6PositionOfFollower();
        promise7Clock();
        promise8QueueLength();
        promise9ItemAt();
        promise10RampIndex();
        promise11TopIndex();
        promise12Interval();
        promise13ApproximateInterval();
        readingIsNoAction();
        constants();
        Check.end();
    }

    private static void promise1NewObject() {
        StepperPlanner p = new StepperPlanner();
        Check.due("queueLength()", p.queueLength(), 0);
        Check.due("itemAt(0)", p.itemAt(0), StepperPlanner.NO_SUCH_INDEX);
        Check.due("position(0)", p.position(0), 100000);
        Check.due("position(1)", p.position(1), 100000);
        Check.due("clock()", p.clock(), 0);
        Check.due("rampIndex()", p.rampIndex(), StepperPlanner.NONE);
        Check.due("undo()", p.undo(), StepperPlanner.NOT_POSSIBLE);
        Check.due("restore(0)", p.restore(0), StepperPlanner.NOT_POSSIBLE);
        Check.due("restore(1)", p.restore(1), StepperPlanner.NOT_POSSIBLE);
        Check.due("errorPosition()", p.errorPosition(), 0);
        Check.due("clearText()", p.clearText(), 0);
        Check.due("setAcceleration(999)", p.setAcceleration(999), 100);
        Check.due("setSpeedLimit(999)", p.setSpeedLimit(999), 200);
        Check.due("another object", new StepperPlanner().setAcceleration(1), 100);
    }

    private static void promise6Position() {
        StepperPlanner p = new StepperPlanner();
        Check.due("position(-1)", p.position(-1), StepperPlanner.NO_SUCH_INDEX);
        Check.due("position(2)", p.position(2), StepperPlanner.NO_SUCH_INDEX);
        Check.due("position(least)", p.position(Integer.MIN_VALUE), StepperPlanner.NO_SUCH_INDEX);
        Check.due("position(greatest)", p.position(Integer.MAX_VALUE), StepperPlanner.NO_SUCH_INDEX);
        p.addMove(-999, 998);
        Check.due("run(99999)", p.run(99999), 999);
        Check.due("position(0)", p.position(0), 99001);
        Check.due("position(1)", p.position(1), 100998);
        p.addMove(-999, -999);
        Check.due("run(99999)", p.run(99999), 999);
        Check.due("position(0)", p.position(0), 98002);
        Check.due("position(1)", p.position(1), 99999);
    }

    /** Follower positions by floor((2 * k * f + length) / (2 * length)). */
    private static void promise6PositionOfFollower() {
        int[] twoOfFive = {0, 1, 1, 2, 2};
        int[] threeOfSix = {1, 1, 2, 2, 3, 3};
        int[] oneOfFour = {0, 1, 1, 1};
        dueFollower(5, 2, twoOfFive);
        dueFollower(6, 3, threeOfSix);
        dueFollower(4, 1, oneOfFour);
        dueFollower(3, 0, new int[] {0, 0, 0});
        dueFollower(3, 3, new int[] {1, 2, 3});
    }

    private static void dueFollower(int leader, int follower, int[] want) {
        for (int signs = 0; signs < 4; signs++) {
            int ls = (signs & 1) == 0 ? 1 : -1;
            int fs = (signs & 2) == 0 ? 1 : -1;
            StepperPlanner p = new StepperPlanner();
            StepperPlanner q = new StepperPlanner();
            p.addMove(ls * leader, fs * follower);
            q.addMove(fs * follower, ls * leader);
            for (int k = 1; k <= want.length; k++) {
                p.step();
                q.step();
                String step = "step " + k + " of " + ls * leader + ", " + fs * follower;
                Check.due("leader X after " + step, p.position(0), 100000 + ls * k);
                Check.due("follower Y after " + step, p.position(1), 100000 + fs * want[k - 1]);
                Check.due("leader Y after " + step, q.position(1), 100000 + ls * k);
                Check.due("follower X after " + step, q.position(0), 100000 + fs * want[k - 1]);
            }
            Check.due("queue after the move", p.queueLength(), 0);
        }
    }

    private static void promise7Clock() {
        StepperPlanner p = new StepperPlanner();
        p.addWait(9999);
        p.addMove(0, -2);
        Check.due("clock() before", p.clock(), 0);
        p.step();
        Check.due("clock() after the wait", p.clock(), 9999);
        p.step();
        Check.due("clock() after a step", p.clock(), 11413);
        p.step();
        Check.due("clock() after two steps", p.clock(), 12827);
        p.undo();
        Check.due("clock() after undo()", p.clock(), 11413);
        p.moveTicks(100);
        p.ticksLeft();
        Check.due("clock() after predictions", p.clock(), 11413);
    }

    private static void promise8QueueLength() {
        StepperPlanner p = new StepperPlanner();
        p.addMove(2, 2);
        Check.due("queueLength()", p.queueLength(), 1);
        p.addWait(3);
        Check.due("queueLength()", p.queueLength(), 2);
        p.step();
        Check.due("queueLength() in the move", p.queueLength(), 2);
        p.step();
        Check.due("queueLength() after the move", p.queueLength(), 1);
        p.step();
        Check.due("queueLength() after the wait", p.queueLength(), 0);
    }

    private static void promise9ItemAt() {
        StepperPlanner p = new StepperPlanner();
        p.addMove(-7, 3);
        p.addWait(1);
        p.addMove(3, -999);
        p.addWait(9999);
        Check.due("itemAt(-1)", p.itemAt(-1), StepperPlanner.NO_SUCH_INDEX);
        Check.due("itemAt(least)", p.itemAt(Integer.MIN_VALUE), StepperPlanner.NO_SUCH_INDEX);
        Check.due("itemAt(greatest)", p.itemAt(Integer.MAX_VALUE), StepperPlanner.NO_SUCH_INDEX);
        Check.due("itemAt(0)", p.itemAt(0), 7);
        Check.due("itemAt(1)", p.itemAt(1), 10001);
        Check.due("itemAt(2)", p.itemAt(2), 999);
        Check.due("itemAt(3)", p.itemAt(3), 19999);
        Check.due("itemAt(4)", p.itemAt(4), StepperPlanner.NO_SUCH_INDEX);
        p.step();
        p.step();
        Check.due("itemAt(0) in the move", p.itemAt(0), 5);
        p.stop();
        Check.due("itemAt(0) after stop()", p.itemAt(0), 1);
        Check.due("itemAt(1) after stop()", p.itemAt(1), StepperPlanner.NO_SUCH_INDEX);
        StepperPlanner q = new StepperPlanner();
        for (int i = 1; i <= 8; i++) {
            q.addWait(i);
        }
        Check.due("itemAt(7) of 8", q.itemAt(7), 10008);
        Check.due("itemAt(8) of 8", q.itemAt(8), StepperPlanner.NO_SUCH_INDEX);
    }

    private static void promise10RampIndex() {
        StepperPlanner p = new StepperPlanner();
        int[] want = {0, 1, 2, 3, 3, 2, 1, StepperPlanner.NONE};
        p.addMove(8, 1);
        Check.due("rampIndex() before", p.rampIndex(), StepperPlanner.NONE);
        for (int i = 0; i < want.length; i++) {
            p.step();
            Check.due("rampIndex() of 8 after step " + (i + 1), p.rampIndex(), want[i]);
        }
        p.setSpeedLimit(10);
        p.addMove(8, 1);
        int[] flat = {0, 1, 1, 1, 1, 1, 1, StepperPlanner.NONE};
        for (int i = 0; i < flat.length; i++) {
            p.step();
            Check.due("rampIndex() of 8, slow, after step " + (i + 1), p.rampIndex(), flat[i]);
        }
        p.addWait(5);
        Check.due("rampIndex() before a wait", p.rampIndex(), StepperPlanner.NONE);
        loweredAndRaised();
    }

    /** The index falls by 1 with each step after the limit was lowered, and rises again after it was raised. */
    private static void loweredAndRaised() {
        StepperPlanner p = new StepperPlanner();
        p.addMove(100, 0);
        for (int i = 0; i < 6; i++) {
            p.step();
        }
        Check.due("rampIndex()", p.rampIndex(), 5);
        p.setSpeedLimit(20);
        Check.due("topIndex()", p.topIndex(), 2);
        int[] falling = {4, 3, 2, 2};
        for (int want : falling) {
            Check.due("step() at the lowered limit", p.step(), 500);
            Check.due("rampIndex() falling", p.rampIndex(), want);
        }
        p.setSpeedLimit(200);
        Check.due("step() at the raised limit", p.step(), 379);
        Check.due("rampIndex() rising", p.rampIndex(), 3);
    }

    private static void promise11TopIndex() {
        dueTop(100, 200, 195);
        dueTop(999, 1, 0);
        dueTop(999, 999, 357);
        dueTop(1, 999, 999);
        dueTop(1, 1, 1);
        dueTop(100, 50, 13);
        dueTop(100, 10, 1);
        dueTop(100, 20, 2);
    }

    private static void dueTop(int a, int v, int want) {
        StepperPlanner p = new StepperPlanner();
        p.setAcceleration(a);
        p.setSpeedLimit(v);
        String name = "topIndex() of a " + a + ", v " + v;
        Check.due(name, p.topIndex(), want);
        // The ramp interval is at most the cruise interval for the first time at the top index.
        int cruise = p.interval(want);
        if (want < 999) {
            Check.due("cruise interval, " + name, cruise, (10000 + v - 1) / v);
        }
        if (want > 0) {
            Check.holds("longer interval before, " + name, p.interval(want - 1) > (10000 + v - 1) / v);
        }
    }

    private static void promise12Interval() {
        StepperPlanner p = new StepperPlanner();
        int[] want = {1414, 586, 449, 379, 334, 302};
        for (int n = 0; n < want.length; n++) {
            Check.due("interval(" + n + ")", p.interval(n), want[n]);
        }
        Check.due("interval(999)", p.interval(999), 50);
        Check.due("interval(1000)", p.interval(1000), StepperPlanner.BAD_VALUE);
        Check.due("interval(-1)", p.interval(-1), StepperPlanner.BAD_VALUE);
        Check.due("interval(least)", p.interval(Integer.MIN_VALUE), StepperPlanner.BAD_VALUE);
        Check.due("interval(greatest)", p.interval(Integer.MAX_VALUE), StepperPlanner.BAD_VALUE);
        p.setSpeedLimit(3);
        Check.due("interval(0) of v 3: rounded up", p.interval(0), 3334);
        p.setSpeedLimit(999);
        // T(1000) = 44721, T(999) = 44698
        Check.due("interval(999) of v 999", p.interval(999), 23);
        p.setAcceleration(1);
        Check.due("interval(0) of a 1", p.interval(0), 14142);
        Check.due("interval(1) of a 1", p.interval(1), 5858);
        p.setAcceleration(999);
        Check.due("interval(0) of a 999", p.interval(0), 447);
        Check.due("interval(999) of a 999, v 999", p.interval(999), 11);
        p.undo();
        Check.due("interval(0) of a 1 after undo()", p.interval(0), 14142);
        p.setSpeedLimit(1);
        Check.due("interval(1) of a 1, v 1", p.interval(1), 10000);
    }

    private static void promise13ApproximateInterval() {
        StepperPlanner p = new StepperPlanner();
        int[] want = {955, 573, 446, 378, 333, 302};
        for (int n = 0; n < want.length; n++) {
            Check.due("approximateInterval(" + n + ")", p.approximateInterval(n), want[n]);
        }
        Check.due("approximateInterval(999)", p.approximateInterval(999), 23);
        Check.due("approximateInterval(1000)", p.approximateInterval(1000), StepperPlanner.BAD_VALUE);
        Check.due("approximateInterval(-1)", p.approximateInterval(-1), StepperPlanner.BAD_VALUE);
        Check.due("approximateInterval(least)", p.approximateInterval(Integer.MIN_VALUE), StepperPlanner.BAD_VALUE);
        p.setSpeedLimit(1);
        Check.due("approximateInterval(5), slow: as before", p.approximateInterval(5), 302);
        p.setAcceleration(1);
        // floor(676 * 14142 / 1000)
        Check.due("approximateInterval(0) of a 1", p.approximateInterval(0), 9559);
        // 9559 - floor(19118 / 5), and 3 is carried: 5736 - floor((11472 + 3) / 9)
        Check.due("approximateInterval(1) of a 1", p.approximateInterval(1), 5736);
        Check.due("approximateInterval(2) of a 1", p.approximateInterval(2), 4461);
        p.setAcceleration(999);
        Check.due("approximateInterval(0) of a 999", p.approximateInterval(0), 302);
    }

    private static void readingIsNoAction() {
        StepperPlanner p = new StepperPlanner();
        p.addMove(3, 3);
        p.position(0);
        p.clock();
        p.queueLength();
        p.itemAt(0);
        p.rampIndex();
        p.topIndex();
        p.interval(5);
        p.approximateInterval(5);
        Check.due("undo() after reading", p.undo(), 0);
        Check.due("undo() again", p.undo(), StepperPlanner.NOT_POSSIBLE);
    }

    private static void constants() {
        Check.due("NO_SUCH_INDEX", StepperPlanner.NO_SUCH_INDEX, -1);
        Check.due("BAD_VALUE", StepperPlanner.BAD_VALUE, -2);
        Check.due("NOT_POSSIBLE", StepperPlanner.NOT_POSSIBLE, -3);
        Check.due("FULL", StepperPlanner.FULL, -4);
        Check.due("NONE", StepperPlanner.NONE, -9);
    }
}
