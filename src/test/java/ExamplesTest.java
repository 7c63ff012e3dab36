/** The five examples of the document's section "Description". */
public final class ExamplesTest {
    public static void main(String[] args) {
        moveOfThreeSteps();
        intervalsAndTopIndex();
        stoppedMove();
        waitAndMove();
        whatAMoveTakes();
        Check.end();
    }

    private static void moveOfThreeSteps() {
        StepperPlanner p = new StepperPlanner();
        Check.due("1 addMove(3, 2)", p.addMove(3, 2), 1);
        Check.due("1 step()", p.step(), 1414);
        Check.due("1 position(0)", p.position(0), 100001);
        Check.due("1 position(1)", p.position(1), 100001);
        Check.due("1 rampIndex()", p.rampIndex(), 0);
        Check.due("1 step()", p.step(), 586);
        Check.due("1 rampIndex()", p.rampIndex(), 1);
        Check.due("1 step()", p.step(), 1414);
        Check.due("1 rampIndex()", p.rampIndex(), -9);
        Check.due("1 position(1)", p.position(1), 100002);
        Check.due("1 clock()", p.clock(), 3414);
        Check.due("1 moveTicks(3)", p.moveTicks(3), 3414);
    }

    private static void intervalsAndTopIndex() {
        StepperPlanner p = new StepperPlanner();
        Check.due("2 interval(0)", p.interval(0), 1414);
        Check.due("2 interval(1)", p.interval(1), 586);
        Check.due("2 approximateInterval(0)", p.approximateInterval(0), 955);
        Check.due("2 approximateInterval(1)", p.approximateInterval(1), 573);
        Check.due("2 topIndex()", p.topIndex(), 195);
        Check.due("2 setSpeedLimit(10)", p.setSpeedLimit(10), 200);
        Check.due("2 topIndex()", p.topIndex(), 1);
        Check.due("2 interval(0)", p.interval(0), 1414);
    }

    private static void stoppedMove() {
        StepperPlanner p = new StepperPlanner();
        Check.due("3 stop()", p.stop(), -3);
        Check.due("3 addMove(0, 0)", p.addMove(0, 0), -2);
        Check.due("3 addMove(-5, 0)", p.addMove(-5, 0), 1);
        Check.due("3 run(3500)", p.run(3500), 4);
        Check.due("3 rampIndex()", p.rampIndex(), 1);
        Check.due("3 stop()", p.stop(), 1);
        Check.due("3 ticksLeft()", p.ticksLeft(), 1414);
        Check.due("3 run(99999)", p.run(99999), 1);
        Check.due("3 position(0)", p.position(0), 99995);
    }

    private static void waitAndMove() {
        StepperPlanner p = new StepperPlanner();
        Check.due("4 addWait(40)", p.addWait(40), 1);
        Check.due("4 addMove(2, -1)", p.addMove(2, -1), 2);
        Check.due("4 itemAt(0)", p.itemAt(0), 10040);
        Check.due("4 itemAt(1)", p.itemAt(1), 2);
        Check.due("4 run(39)", p.run(39), 0);
        Check.due("4 run(40)", p.run(40), 1);
        Check.due("4 positionAfter(1, 99999)", p.positionAfter(1, 99999), 99999);
        Check.due("4 queueLength()", p.queueLength(), 1);
    }

    private static void whatAMoveTakes() {
        StepperPlanner p = new StepperPlanner();
        Check.due("5 greatestLength(5000)", p.greatestLength(5000), 6);
        Check.due("5 moveTicks(5)", p.moveTicks(5), 4449);
        Check.due("5 leastAcceleration(5, 5000)", p.leastAcceleration(5, 5000), 80);
        Check.due("5 leastAcceleration(5, 10)", p.leastAcceleration(5, 10), -9);
    }
}
