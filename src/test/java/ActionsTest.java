/** Promises 14 to 22: the actions and undo. */
public final class ActionsTest {
    private static final int BAD_VALUE = StepperPlanner.BAD_VALUE;
    private static final int NOT_POSSIBLE = StepperPlanner.NOT_POSSIBLE;
    private static final int NO_SUCH_INDEX = StepperPlanner.NO_SUCH_INDEX;

    public static void main(String[] args) {
        promise14SetAcceleration();
        promise15SetSpeedLimit();
        promise16AddMove();
        promise17AddWait();
        promise18Step();
        promise19Run();
        promise19RunAcrossItems();
        promise20Stop();
        promise20StopKeepsTheLength();
        promise21RemoveItem();
        promise22Undo();
        promise22UndoOfEachAction();
        promise22ErrorsAreNoActions();
        Check.end();
    }

    private static void promise14SetAcceleration() {
        StepperPlanner p = new StepperPlanner();
        Check.due("setAcceleration(0)", p.setAcceleration(0), BAD_VALUE);
        Check.due("setAcceleration(1000)", p.setAcceleration(1000), BAD_VALUE);
        Check.due("setAcceleration(-5)", p.setAcceleration(-5), BAD_VALUE);
        Check.due("setAcceleration(least)", p.setAcceleration(Integer.MIN_VALUE), BAD_VALUE);
        Check.due("setAcceleration(1)", p.setAcceleration(1), 100);
        Check.due("interval(0)", p.interval(0), 14142);
        Check.due("setAcceleration(999)", p.setAcceleration(999), 1);
        Check.due("interval(0)", p.interval(0), 447);
        Check.due("setAcceleration(999)", p.setAcceleration(999), 999);
        p.addMove(3, 0);
        Check.due("setAcceleration(100) before a move", p.setAcceleration(100), 999);
        p.step();
        Check.due("setAcceleration(50) in a move", p.setAcceleration(50), NOT_POSSIBLE);
        Check.due("setAcceleration(0) in a move", p.setAcceleration(0), BAD_VALUE);
        Check.due("interval(0)", p.interval(0), 1414);
        p.run(99999);
        Check.due("setAcceleration(50) after the move", p.setAcceleration(50), 100);
        p.addWait(5);
        Check.due("setAcceleration(60) before a wait", p.setAcceleration(60), 50);
    }

    private static void promise15SetSpeedLimit() {
        StepperPlanner p = new StepperPlanner();
        Check.due("setSpeedLimit(0)", p.setSpeedLimit(0), BAD_VALUE);
        Check.due("setSpeedLimit(1000)", p.setSpeedLimit(1000), BAD_VALUE);
        Check.due("setSpeedLimit(-1)", p.setSpeedLimit(-1), BAD_VALUE);
        Check.due("setSpeedLimit(greatest)", p.setSpeedLimit(Integer.MAX_VALUE), BAD_VALUE);
        Check.due("setSpeedLimit(999)", p.setSpeedLimit(999), 200);
        Check.due("setSpeedLimit(1)", p.setSpeedLimit(1), 999);
        Check.due("interval(5)", p.interval(5), 10000);
        Check.due("setSpeedLimit(1)", p.setSpeedLimit(1), 1);
        p.setSpeedLimit(200);
        p.addMove(6, 0);
        p.step();
        p.step();
        Check.due("setSpeedLimit(10) in a move", p.setSpeedLimit(10), 200);
        Check.due("step()", p.step(), 1000);
        Check.due("rampIndex()", p.rampIndex(), 1);
    }

    private static void promise16AddMove() {
        StepperPlanner p = new StepperPlanner();
        int[][] bad = {{0, 0}, {1000, 0}, {-1000, 0}, {0, 1000}, {0, -1000}, {1000, 1000}, {5, 1000}, {-1000, 5},
            {Integer.MIN_VALUE, 1}, {1, Integer.MIN_VALUE}, {Integer.MAX_VALUE, 1}, {1, Integer.MAX_VALUE}};
        for (int[] d : bad) {
            Check.due("addMove(" + d[0] + ", " + d[1] + ")", p.addMove(d[0], d[1]), BAD_VALUE);
        }
        int[][] good = {{999, 0}, {0, -999}, {-999, 999}, {0, 1}, {-1, 0}, {998, -999}, {7, 7}, {-2, -3}};
        int[] lengths = {999, 999, 999, 1, 1, 999, 7, 3};
        for (int i = 0; i < good.length; i++) {
            Check.due("addMove number " + i, p.addMove(good[i][0], good[i][1]), i + 1);
            Check.due("itemAt(" + i + ")", p.itemAt(i), lengths[i]);
        }
        Check.due("ninth addMove", p.addMove(1, 1), StepperPlanner.FULL);
        Check.due("ninth addMove, bad", p.addMove(0, 0), BAD_VALUE);
        Check.due("ninth addMove, bad", p.addMove(1, 1000), BAD_VALUE);
        Check.due("queueLength()", p.queueLength(), 8);
        p.step();
        Check.due("addMove in a move, full", p.addMove(1, 1), StepperPlanner.FULL);
        p.removeItem(7);
        Check.due("addMove in a move", p.addMove(1, 1), 8);
        Check.due("itemAt(0)", p.itemAt(0), 998);
    }

    private static void promise17AddWait() {
        StepperPlanner p = new StepperPlanner();
        int[] bad = {0, -1, 10000, Integer.MIN_VALUE, Integer.MAX_VALUE};
        for (int ticks : bad) {
            Check.due("addWait(" + ticks + ")", p.addWait(ticks), BAD_VALUE);
        }
        for (int i = 1; i <= 8; i++) {
            Check.due("addWait number " + i, p.addWait(i == 1 ? 1 : i == 2 ? 9999 : i), i);
        }
        Check.due("itemAt(0)", p.itemAt(0), 10001);
        Check.due("itemAt(1)", p.itemAt(1), 19999);
        Check.due("itemAt(7)", p.itemAt(7), 10008);
        Check.due("ninth addWait", p.addWait(1), StepperPlanner.FULL);
        Check.due("ninth addWait, bad", p.addWait(0), BAD_VALUE);
        Check.due("addMove after 8 waits", p.addMove(1, 0), StepperPlanner.FULL);
        p.step();
        Check.due("addWait after a step", p.addWait(77), 8);
        Check.due("itemAt(0)", p.itemAt(0), 19999);
        Check.due("itemAt(7)", p.itemAt(7), 10077);
    }

    private static void promise18Step() {
        StepperPlanner p = new StepperPlanner();
        Check.due("step() of an empty queue", p.step(), NOT_POSSIBLE);
        p.addMove(1, -1);
        p.addWait(9999);
        p.addMove(4, 0);
        int[] ticks = {1414, 9999, 1414, 586, 586, 1414};
        for (int i = 0; i < ticks.length; i++) {
            Check.due("step() number " + i, p.step(), ticks[i]);
        }
        Check.due("step() after all", p.step(), NOT_POSSIBLE);
        Check.due("position(0)", p.position(0), 100005);
        Check.due("position(1)", p.position(1), 99999);
        p.setAcceleration(1);
        p.setSpeedLimit(1);
        p.addMove(5, 0);
        int[] slow = {14142, 10000, 10000, 10000, 14142};
        for (int i = 0; i < slow.length; i++) {
            Check.due("slow step() number " + i, p.step(), slow[i]);
        }
    }

    private static void promise19Run() {
        StepperPlanner p = new StepperPlanner();
        Check.due("run(0), empty", p.run(0), BAD_VALUE);
        Check.due("run(100000), empty", p.run(100000), BAD_VALUE);
        Check.due("run(-1), empty", p.run(-1), BAD_VALUE);
        Check.due("run(least), empty", p.run(Integer.MIN_VALUE), BAD_VALUE);
        Check.due("run(greatest), empty", p.run(Integer.MAX_VALUE), BAD_VALUE);
        Check.due("run(1), empty", p.run(1), NOT_POSSIBLE);
        Check.due("run(99999), empty", p.run(99999), NOT_POSSIBLE);
        p.addMove(4, 2);
        Check.due("run(1413)", p.run(1413), 0);
        Check.due("rampIndex()", p.rampIndex(), StepperPlanner.NONE);
        Check.due("run(1414)", p.run(1414), 1);
        Check.due("run(585)", p.run(585), 0);
        Check.due("run(1171)", p.run(1171), 1);
        Check.due("run(1999)", p.run(1999), 1);
        Check.due("itemAt(0)", p.itemAt(0), 1);
        Check.due("run(0)", p.run(0), BAD_VALUE);
        Check.due("run(99999)", p.run(99999), 1);
        Check.due("clock()", p.clock(), 4000);
        Check.due("undo() counts each run", p.undo(), 6);
    }

    private static void promise19RunAcrossItems() {
        StepperPlanner p = new StepperPlanner();
        p.addMove(2, 0);
        p.addWait(100);
        p.addWait(50);
        p.addMove(0, -3);
        Check.due("run(2928)", p.run(2928), 3);
        Check.due("queueLength()", p.queueLength(), 2);
        p.undo();
        Check.due("run(2927)", p.run(2927), 2);
        p.undo();
        Check.due("run(4978)", p.run(4978), 6);
        Check.due("rampIndex()", p.rampIndex(), 1);
        Check.due("position(0)", p.position(0), 100002);
        Check.due("position(1)", p.position(1), 99998);
        p.undo();
        Check.due("run(99999)", p.run(99999), 7);
        Check.due("clock()", p.clock(), 6392);
        longestRun();
    }

    private static void longestRun() {
        StepperPlanner p = new StepperPlanner();
        p.setAcceleration(999);
        p.setSpeedLimit(999);
        for (int i = 0; i < 8; i++) {
            p.addMove(999, -999);
        }
        int all = p.ticksLeft();
        int steps = p.run(99999);
        Check.holds("a run of nearly the ticks", p.clock() <= 99999 && p.clock() + p.interval(0) > 99999);
        Check.due("position(0)", p.position(0), 100000 + steps);
        Check.due("rest", p.ticksLeft(), all - p.clock());
    }

    private static void promise20Stop() {
        StepperPlanner p = new StepperPlanner();
        Check.due("stop() of an empty queue", p.stop(), NOT_POSSIBLE);
        p.addMove(10, 0);
        p.addWait(5);
        p.addMove(1, 1);
        Check.due("stop() before the move", p.stop(), NOT_POSSIBLE);
        p.step();
        Check.due("stop() at the index 0", p.stop(), 0);
        Check.due("queueLength()", p.queueLength(), 0);
        Check.due("rampIndex()", p.rampIndex(), StepperPlanner.NONE);
        Check.due("clock()", p.clock(), 1414);
        Check.due("position(0)", p.position(0), 100001);
        Check.due("stop() after the move", p.stop(), NOT_POSSIBLE);
        Check.due("setAcceleration(99)", p.setAcceleration(99), 100);
        p.undo();
        Check.due("undo() of stop()", p.undo(), 4);
        Check.due("queueLength()", p.queueLength(), 3);
        p.run(1414);
        Check.due("rampIndex()", p.rampIndex(), 3);
        Check.due("stop() at the index 3", p.stop(), 3);
        Check.due("stop() again", p.stop(), 3);
        Check.due("queueLength()", p.queueLength(), 1);
        Check.due("itemAt(0)", p.itemAt(0), 3);
        Check.due("step()", p.step(), 449);
        Check.due("stop() on the way down", p.stop(), 2);
        Check.due("addWait(3) after stop()", p.addWait(3), 2);
        Check.due("run(99999)", p.run(99999), 3);
        Check.due("position(0)", p.position(0), 100007);
        p.addWait(4);
        Check.due("stop() before a wait", p.stop(), NOT_POSSIBLE);
    }

    /** The follower goes on by the length that the move had. */
    private static void promise20StopKeepsTheLength() {
        StepperPlanner p = new StepperPlanner();
        p.addMove(-20, 10);
        p.run(2449);
        Check.due("rampIndex()", p.rampIndex(), 2);
        Check.due("stop()", p.stop(), 2);
        Check.due("step()", p.step(), 586);
        Check.due("position(0)", p.position(0), 99996);
        Check.due("position(1)", p.position(1), 100002);
        Check.due("step()", p.step(), 1414);
        Check.due("position(0)", p.position(0), 99995);
        Check.due("position(1)", p.position(1), 100003);
        Check.due("queueLength()", p.queueLength(), 0);
        p.addMove(3, 3);
        p.run(99999);
        Check.due("position(1) after another move", p.position(1), 100006);
    }

    private static void promise21RemoveItem() {
        StepperPlanner p = new StepperPlanner();
        Check.due("removeItem(0), empty", p.removeItem(0), NO_SUCH_INDEX);
        p.addWait(1);
        p.addMove(2, -3);
        p.addWait(3);
        p.addMove(-4, 4);
        Check.due("removeItem(-1)", p.removeItem(-1), NO_SUCH_INDEX);
        Check.due("removeItem(4)", p.removeItem(4), NO_SUCH_INDEX);
        Check.due("removeItem(least)", p.removeItem(Integer.MIN_VALUE), NO_SUCH_INDEX);
        Check.due("removeItem(greatest)", p.removeItem(Integer.MAX_VALUE), NO_SUCH_INDEX);
        Check.due("removeItem(2)", p.removeItem(2), 3);
        Check.due("itemAt(1)", p.itemAt(1), 3);
        Check.due("itemAt(2)", p.itemAt(2), 4);
        Check.due("removeItem(0)", p.removeItem(0), 2);
        Check.due("itemAt(0)", p.itemAt(0), 3);
        p.step();
        Check.due("removeItem(0) in the move", p.removeItem(0), NOT_POSSIBLE);
        Check.due("removeItem(2) in the move", p.removeItem(2), NO_SUCH_INDEX);
        Check.due("removeItem(1) in the move", p.removeItem(1), 1);
        Check.due("rampIndex()", p.rampIndex(), 0);
        p.undo();
        Check.due("itemAt(1) after undo()", p.itemAt(1), 4);
        p.run(99999);
        Check.due("position(0)", p.position(0), 99998);
        Check.due("position(1)", p.position(1), 100001);
        fullQueueLosesItems();
    }

    private static void fullQueueLosesItems() {
        StepperPlanner p = new StepperPlanner();
        for (int i = 1; i <= 8; i++) {
            p.addWait(i);
        }
        Check.due("removeItem(8)", p.removeItem(8), NO_SUCH_INDEX);
        Check.due("removeItem(7)", p.removeItem(7), 7);
        Check.due("removeItem(0)", p.removeItem(0), 6);
        Check.due("itemAt(0)", p.itemAt(0), 10002);
        Check.due("itemAt(5)", p.itemAt(5), 10007);
        Check.due("itemAt(6)", p.itemAt(6), NO_SUCH_INDEX);
    }

    private static void promise22Undo() {
        StepperPlanner p = new StepperPlanner();
        Check.due("undo() at first", p.undo(), NOT_POSSIBLE);
        for (int i = 1; i <= 20; i++) {
            p.setSpeedLimit(i);
        }
        for (int i = 13; i >= 0; i--) {
            Check.due("undo()", p.undo(), i);
        }
        Check.due("undo() of the fifteenth last", p.undo(), NOT_POSSIBLE);
        Check.due("speed limit before the last 14", p.setSpeedLimit(500), 6);
        Check.due("undo()", p.undo(), 0);
        Check.due("speed limit", p.setSpeedLimit(500), 6);
        StepperPlanner q = new StepperPlanner();
        for (int i = 1; i <= 14; i++) {
            q.setSpeedLimit(i);
        }
        for (int i = 13; i >= 0; i--) {
            Check.due("undo() of 14", q.undo(), i);
        }
        Check.due("first speed limit", q.setSpeedLimit(1), 200);
        undoAndGoOn();
    }

    private static void undoAndGoOn() {
        StepperPlanner p = new StepperPlanner();
        p.addMove(3, 1);
        p.step();
        p.step();
        Check.due("undo()", p.undo(), 2);
        Check.due("rampIndex()", p.rampIndex(), 0);
        p.setSpeedLimit(10);
        Check.due("step()", p.step(), 1000);
        Check.due("undo()", p.undo(), 3);
        Check.due("undo()", p.undo(), 2);
        Check.due("step()", p.step(), 586);
        Check.due("position(0)", p.position(0), 100002);
        Check.due("undo()", p.undo(), 2);
        Check.due("undo()", p.undo(), 1);
        Check.due("rampIndex()", p.rampIndex(), StepperPlanner.NONE);
        Check.due("itemAt(0)", p.itemAt(0), 3);
        Check.due("position(0)", p.position(0), 100000);
        Check.due("clock()", p.clock(), 0);
        Check.type(p, "xyz");
        Check.due("undo()", p.undo(), 0);
        Check.due("queueLength()", p.queueLength(), 0);
        Check.due("the text is no part of the state", p.clearText(), 3);
    }

    private static void promise22UndoOfEachAction() {
        StepperPlanner p = new StepperPlanner();
        p.setAcceleration(100);
        p.setSpeedLimit(200);
        p.addMove(9, 9);
        p.addWait(5);
        p.step();
        p.run(1);
        p.removeItem(1);
        p.stop();
        for (int i = 7; i >= 0; i--) {
            Check.due("undo()", p.undo(), i);
        }
        Check.due("undo()", p.undo(), NOT_POSSIBLE);
    }

    private static void promise22ErrorsAreNoActions() {
        StepperPlanner p = new StepperPlanner();
        p.setAcceleration(0);
        p.setSpeedLimit(0);
        p.addMove(0, 0);
        p.addWait(0);
        p.step();
        p.run(0);
        p.run(1);
        p.stop();
        p.removeItem(0);
        p.load();
        p.restore(0);
        p.save(0);
        p.append('a');
        p.errorPosition();
        p.clearText();
        Check.due("undo()", p.undo(), NOT_POSSIBLE);
        p.addMove(2, 0);
        p.step();
        p.setAcceleration(5);
        p.removeItem(0);
        p.removeItem(1);
        p.ticksLeft();
        p.moveTicks(5);
        p.positionAfter(0, 5000);
        p.leastAcceleration(5, 5000);
        p.greatestLength(5000);
        p.runScript(1, 1001);
        p.randomSpeeds(1, 5);
        p.save(0);
        Check.due("rampIndex()", p.rampIndex(), 0);
        Check.due("undo()", p.undo(), 1);
        Check.due("undo()", p.undo(), 0);
        Check.due("undo()", p.undo(), NOT_POSSIBLE);
    }
}
