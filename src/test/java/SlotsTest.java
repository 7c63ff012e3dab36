/** Promises 30 and 31: save and restore. */
public final class SlotsTest {
    private static final int NO_SUCH_INDEX = StepperPlanner.NO_SUCH_INDEX;
    private static final int NOT_POSSIBLE = StepperPlanner.NOT_POSSIBLE;

    public static void main(String[] args) {
        promise30Save();
        promise30SaveIsNoAction();
        promise31Restore();
        promise31RestoreForgets();
        promise31RestoreInAMove();
        Check.end();
    }

    private static void promise30Save() {
        StepperPlanner p = new StepperPlanner();
        int[] bad = {-1, 2, Integer.MIN_VALUE, Integer.MAX_VALUE};
        for (int slot : bad) {
            Check.due("save(" + slot + ")", p.save(slot), NO_SUCH_INDEX);
            Check.due("restore(" + slot + ")", p.restore(slot), NO_SUCH_INDEX);
        }
        Check.due("save(0), empty queue", p.save(0), 0);
        p.addWait(1);
        p.addMove(2, 2);
        Check.due("save(1)", p.save(1), 2);
        Check.due("restore(0)", p.restore(0), 0);
        Check.due("queueLength()", p.queueLength(), 0);
        Check.due("restore(1)", p.restore(1), 2);
        Check.due("itemAt(0)", p.itemAt(0), 10001);
        p.step();
        Check.due("save(1) over the old state", p.save(1), 1);
        p.run(99999);
        Check.due("restore(1)", p.restore(1), 1);
        Check.due("itemAt(0)", p.itemAt(0), 2);
        Check.due("clock()", p.clock(), 1);
    }

    private static void promise30SaveIsNoAction() {
        StepperPlanner p = new StepperPlanner();
        p.addWait(1);
        p.save(0);
        p.save(1);
        Check.due("undo()", p.undo(), 0);
        Check.due("undo()", p.undo(), NOT_POSSIBLE);
        Check.due("queueLength()", p.queueLength(), 0);
        Check.due("undo() leaves the slots", p.restore(0), 1);
    }

    private static void promise31Restore() {
        StepperPlanner p = new StepperPlanner();
        Check.due("restore(0), empty slot", p.restore(0), NOT_POSSIBLE);
        Check.due("restore(1), empty slot", p.restore(1), NOT_POSSIBLE);
        p.setAcceleration(50);
        p.setSpeedLimit(10);
        p.addMove(3, -3);
        p.addWait(4);
        p.step();
        Check.due("save(1)", p.save(1), 2);
        Check.due("restore(0), still empty", p.restore(0), NOT_POSSIBLE);
        p.run(99999);
        p.setAcceleration(999);
        p.setSpeedLimit(999);
        Check.type(p, "abc");
        for (int again = 0; again < 2; again++) {
            Check.due("restore(1)", p.restore(1), 2);
            Check.due("position(0)", p.position(0), 100001);
            Check.due("position(1)", p.position(1), 99999);
            Check.due("clock()", p.clock(), 2000);
            Check.due("rampIndex()", p.rampIndex(), 0);
            Check.due("itemAt(0)", p.itemAt(0), 2);
            Check.due("itemAt(1)", p.itemAt(1), 10004);
            Check.due("interval(0)", p.interval(0), 2000);
            Check.due("setSpeedLimit(20)", p.setSpeedLimit(20), 10);
            Check.due("step()", p.step(), 828);
            Check.due("stop()", p.stop(), 1);
        }
        Check.due("the text is kept", p.clearText(), 3);
    }

    private static void promise31RestoreForgets() {
        StepperPlanner p = new StepperPlanner();
        p.addWait(1);
        p.save(0);
        p.addWait(2);
        Check.due("failed restore(1)", p.restore(1), NOT_POSSIBLE);
        Check.due("failed restore(2)", p.restore(2), NO_SUCH_INDEX);
        Check.due("undo() after failed ones", p.undo(), 1);
        p.addWait(2);
        Check.due("restore(0)", p.restore(0), 1);
        Check.due("undo()", p.undo(), NOT_POSSIBLE);
        p.addWait(3);
        Check.due("undo()", p.undo(), 0);
        Check.due("queueLength()", p.queueLength(), 1);
        Check.due("restore(0) again", p.restore(0), 1);
    }

    private static void promise31RestoreInAMove() {
        StepperPlanner p = new StepperPlanner();
        p.save(0);
        p.addMove(30, 15);
        p.run(2449);
        p.save(1);
        p.stop();
        Check.due("restore(0)", p.restore(0), 0);
        Check.due("rampIndex()", p.rampIndex(), StepperPlanner.NONE);
        Check.due("position(0)", p.position(0), 100000);
        Check.due("restore(1)", p.restore(1), 1);
        Check.due("rampIndex()", p.rampIndex(), 2);
        Check.due("itemAt(0)", p.itemAt(0), 27);
        Check.due("step()", p.step(), 379);
        Check.due("position(1)", p.position(1), 100002);
        Check.due("removeItem(0)", p.removeItem(0), NOT_POSSIBLE);
    }
}
