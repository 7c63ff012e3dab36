/** The edges named under QUEUE AND MOVES and STEPS and in promises 6 to 10 and 16 to 21, a test for each sentence. */
public final class EdgeMoveTest {
    public static void main(String[] args) {
        axesAreXAndY();
        positionsAndClockAre0AtFirst();
        positionPlus100000MayBeNegative();
        queueHasAtMost8Items();
        placeOfAnItemThatWentIsFree();
        distanceIsFromMinus999To999();
        notBothDistancesAre0();
        waitHas1To9999Ticks();
        itemsAreCountedFrom0();
        itemOfAWaitAndOfAMove();
        lengthIsTheGreaterDistance();
        followerIsRoundedByHalves();
        followerOfALongMove();
        followerThatIsNearlyTheLeader();
        axesMoveInTheirDirections();
        moveOfOneStepIsNeverSeenInProgress();
        moveIsInProgressFromFirstToLastStep();
        waitIsNeverInProgress();
        stepNeedsAnItem();
        stepOfAWait();
        runTakes1To99999Ticks();
        runOfExactlyTheTicks();
        runOfTheMostTicks();
        runMakesNoStepThatIsTooLong();
        runStopsBeforeALongItem();
        Check.end();
    }

    /** "The axes are X (0) and Y (1)." */
    private static void axesAreXAndY() {
        Calls.play("addMove(1,0) step() position(-1)=NO_SUCH_INDEX position(0)=100001 position(1)=100000",
            "position(2)=NO_SUCH_INDEX position(MIN)=NO_SUCH_INDEX position(MAX)=NO_SUCH_INDEX");
    }

    /** "Each axis has a position ...; both are 0 at first. The clock, in ticks, is 0 at first." */
    private static void positionsAndClockAre0AtFirst() {
        Calls.play("position(0)=100000 position(1)=100000 clock()=0");
        Calls.play("queueLength()=0 itemAt(0)=NO_SUCH_INDEX rampIndex()=NONE undo()=NOT_POSSIBLE clearText()=0");
        Calls.play("errorPosition()=0 load()=NOT_POSSIBLE restore(0)=NOT_POSSIBLE restore(1)=NOT_POSSIBLE");
        Calls.play("step()=NOT_POSSIBLE run(1)=NOT_POSSIBLE stop()=NOT_POSSIBLE removeItem(0)=NO_SUCH_INDEX");
    }

    /** position: "Returns the position of the axis plus 100000", also of a position that is far below 0 */
    private static void positionPlus100000MayBeNegative() {
        StringBuilder calls = new StringBuilder("setAcceleration(999) setSpeedLimit(999)");
        for (int i = 1; i <= 20; i++) {
            calls.append(" 5*addMove(-999,999) 2*run(99999) queueLength()=0");
            calls.append(" position(0)=").append(100000 - 4995 * i).append(" position(1)=").append(100000 + 4995 * i);
        }
        calls.append(" addMove(-100,0) run(99999)=100 position(0)=0 addMove(-1,0) run(999)=1 position(0)=-1");
        calls.append(" addMove(-1,0) positionAfter(0,999)=-2 positionAfter(1,999)=199900 clock()=2011073");
        Calls.play(calls.toString());
    }

    /** "The queue has at most 8 items." */
    private static void queueHasAtMost8Items() {
        Calls.play("addMove(1,1)=1 addMove(1,1)=2 addMove(1,1)=3 addMove(1,1)=4 addMove(1,1)=5 addMove(1,1)=6",
            "addMove(1,1)=7 queueLength()=7 addMove(1,1)=8 queueLength()=8 addMove(1,1)=FULL addWait(1)=FULL",
            "queueLength()=8 itemAt(7)=1 itemAt(8)=NO_SUCH_INDEX");
        Calls.play("7*addWait(5) addWait(6)=8 addWait(7)=FULL addMove(7,7)=FULL queueLength()=8 itemAt(7)=10006",
            "itemAt(8)=NO_SUCH_INDEX ticksLeft()=41");
        Calls.play("4*addWait(5) 3*addMove(1,0) addWait(4)=8 addMove(1,0)=FULL addWait(4)=FULL");
    }

    /** The full queue takes an item again after a step, a stop, an undo and a removal that made a place free. */
    private static void placeOfAnItemThatWentIsFree() {
        Calls.play("8*addWait(5) step() queueLength()=7 addWait(6)=8 addWait(6)=FULL removeItem(7)=7 addMove(1,0)=8",
            "addMove(1,0)=FULL undo() queueLength()=7 addWait(9)=8 addWait(9)=FULL itemAt(7)=10009");
        Calls.play("8*addMove(2,0) step() addWait(1)=FULL step() addWait(1)=8 addWait(1)=FULL");
        Calls.play("8*addMove(9,0) 2*step() addWait(1)=FULL stop()=1 addWait(1)=2 6*addWait(1) addWait(1)=FULL");
    }

    /** "A move has a distance for each axis, from -999 to 999" */
    private static void distanceIsFromMinus999To999() {
        Calls.play("addMove(-1000,1)=BAD_VALUE addMove(-999,1)=1 addMove(999,1)=2 addMove(1000,1)=BAD_VALUE",
            "addMove(1,-1000)=BAD_VALUE addMove(1,-999)=3 addMove(1,999)=4 addMove(1,1000)=BAD_VALUE",
            "addMove(-999,-999)=5 addMove(999,999)=6 addMove(-1000,-1000)=BAD_VALUE addMove(1000,1000)=BAD_VALUE",
            "addMove(999,1000)=BAD_VALUE addMove(-1000,999)=BAD_VALUE addMove(1000,0)=BAD_VALUE",
            "addMove(0,-1000)=BAD_VALUE",
            "addMove(MIN,1)=BAD_VALUE addMove(1,MIN)=BAD_VALUE addMove(MAX,1)=BAD_VALUE addMove(1,MAX)=BAD_VALUE",
            "addMove(MIN,MIN)=BAD_VALUE addMove(0,MIN)=BAD_VALUE queueLength()=6 itemAt(5)=999");
    }

    /** "at least one of them is not 0" */
    private static void notBothDistancesAre0() {
        Calls.play("addMove(0,0)=BAD_VALUE addMove(0,1)=1 addMove(1,0)=2 addMove(0,-1)=3 addMove(-1,0)=4",
            "addMove(0,0)=BAD_VALUE addMove(0,999)=5 addMove(-999,0)=6 addMove(1,-1)=7 itemAt(0)=1 itemAt(4)=999");
    }

    /** "A wait has a number of ticks, 1 to 9999." */
    private static void waitHas1To9999Ticks() {
        Calls.play("addWait(0)=BAD_VALUE addWait(1)=1 addWait(9999)=2 addWait(10000)=BAD_VALUE addWait(-1)=BAD_VALUE",
            "addWait(MIN)=BAD_VALUE addWait(MAX)=BAD_VALUE itemAt(0)=10001 itemAt(1)=19999 step()=1 step()=9999");
    }

    /** "item of the queue, from 0 ... NO_SUCH_INDEX if there is no such item" */
    private static void itemsAreCountedFrom0() {
        Calls.play("itemAt(0)=NO_SUCH_INDEX itemAt(-1)=NO_SUCH_INDEX itemAt(1)=NO_SUCH_INDEX addWait(5)",
            "itemAt(0)=10005",
            "itemAt(1)=NO_SUCH_INDEX itemAt(-1)=NO_SUCH_INDEX itemAt(MIN)=NO_SUCH_INDEX itemAt(MAX)=NO_SUCH_INDEX",
            "7*addWait(6) itemAt(7)=10006 itemAt(8)=NO_SUCH_INDEX itemAt(9)=NO_SUCH_INDEX 8*step()",
            "itemAt(0)=NO_SUCH_INDEX itemAt(7)=NO_SUCH_INDEX");
    }

    /** itemAt: "for a move the number of its steps that remain, for a wait its ticks plus 10000" */
    private static void itemOfAWaitAndOfAMove() {
        Calls.play("addMove(3,1) addWait(1) addMove(3,1) addWait(9999) itemAt(0)=3 itemAt(1)=10001 itemAt(2)=3",
            "itemAt(3)=19999 step() itemAt(0)=2 itemAt(2)=3 step() itemAt(0)=1 itemAt(1)=10001 step() itemAt(0)=10001",
            "step() itemAt(0)=3 itemAt(1)=19999 step() itemAt(0)=2");
        Calls.play("addMove(99,0) 3*step() itemAt(0)=96 stop()=2 itemAt(0)=2 step() itemAt(0)=1 undo() itemAt(0)=2");
    }

    /** "The leader of a move is the axis with the greater absolute distance; it is X if both are equal." */
    private static void lengthIsTheGreaterDistance() {
        Calls.play("addMove(-7,6) addMove(6,-7) addMove(-7,7) addMove(7,0) addMove(0,-7) addMove(-6,-7) addMove(1,-1)",
            "itemAt(0)=7 itemAt(1)=7 itemAt(2)=7 itemAt(3)=7 itemAt(4)=7 itemAt(5)=7 itemAt(6)=1");
        Calls.play("addMove(4,-4) step() position(0)=100001 position(1)=99999 step() position(0)=100002",
            "position(1)=99998 2*step() position(0)=100004 position(1)=99996 queueLength()=0");
    }

    /** "the follower by floor((2 * k * f + length) / (2 * length))": at a half and just below one */
    private static void followerIsRoundedByHalves() {
        Calls.play("addMove(2,1) step() position(1)=100001 step() position(1)=100001 position(0)=100002");
        Calls.play("addMove(3,1) step() position(1)=100000 step() position(1)=100001 step() position(1)=100001");
        Calls.play("addMove(4,1) step() position(1)=100000 step() position(1)=100001 2*step() position(1)=100001");
        Calls.play("addMove(5,2) step() position(1)=100000 step() position(1)=100001 step() position(1)=100001",
            "step() position(1)=100002 step() position(1)=100002");
        Calls.play("addMove(1,6) step() position(0)=100000 step() position(0)=100000 step() position(0)=100001",
            "position(1)=100003 3*step() position(0)=100001 position(1)=100006");
        // The halves are rounded away from 0 on the negative side.
        Calls.play("addMove(-2,-1) step() position(1)=99999 position(0)=99999 step() position(1)=99999");
        Calls.play("addMove(-1,4) step() position(0)=100000 step() position(0)=99999 2*step() position(0)=99999");
        Calls.play("addMove(3,0) step() position(1)=100000 2*step() position(1)=100000 position(0)=100003");
    }

    /** The same for the longest move: 2 * 499 + 999 is less than 2 * 999, and 2 * 500 + 999 is not. */
    private static void followerOfALongMove() {
        String slow = "setAcceleration(999) setSpeedLimit(10) topIndex()=0 ";
        Calls.play(slow + "addMove(-999,1) 5*run(99000)=99 run(4000)=4 position(0)=99501 position(1)=100000",
            "step()=1000 position(0)=99500 position(1)=100001 5*run(99000) run(99000)=4 position(0)=99001",
            "position(1)=100001 queueLength()=0");
    }

    /** 2 * k * 998 + 999 lets the follower rest in the step 500 alone. */
    private static void followerThatIsNearlyTheLeader() {
        String slow = "setAcceleration(999) setSpeedLimit(10) ";
        Calls.play(slow + "addMove(998,-999) step() position(0)=100001 position(1)=99999 5*run(99000)=99",
            "run(3000)=3 position(0)=100499 position(1)=99501 step() position(0)=100499 position(1)=99500",
            "step() position(0)=100500 position(1)=99499 6*run(99000) position(0)=100998 position(1)=99001");
    }

    /** "each axis moves in the direction of the sign of its distance" */
    private static void axesMoveInTheirDirections() {
        Calls.play("addMove(2,2) step() position(0)=100001 position(1)=100001");
        Calls.play("addMove(-2,2) step() position(0)=99999 position(1)=100001");
        Calls.play("addMove(2,-2) step() position(0)=100001 position(1)=99999");
        Calls.play("addMove(-2,-2) step() position(0)=99999 position(1)=99999");
    }

    /** "A move consists of as many steps as its length": the last step of a move of one step is its first. */
    private static void moveOfOneStepIsNeverSeenInProgress() {
        Calls.play("addMove(1,-1) addMove(0,1) rampIndex()=NONE step()=1414 rampIndex()=NONE stop()=NOT_POSSIBLE",
            "position(0)=100001 position(1)=99999 queueLength()=1 itemAt(0)=1 setAcceleration(100)=100 step()=1414",
            "rampIndex()=NONE queueLength()=0 position(1)=100000");
    }

    /** "A move is in progress from its first step until its last step has been made." */
    private static void moveIsInProgressFromFirstToLastStep() {
        Calls.play("addMove(2,0) rampIndex()=NONE stop()=NOT_POSSIBLE setAcceleration(100)=100",
            "step()=1414 rampIndex()=0 setAcceleration(100)=NOT_POSSIBLE removeItem(0)=NOT_POSSIBLE",
            "step()=1414 rampIndex()=NONE stop()=NOT_POSSIBLE setAcceleration(100)=100 removeItem(0)=NO_SUCH_INDEX");
        Calls.play("2*addMove(2,0) 2*step() rampIndex()=NONE stop()=NOT_POSSIBLE setAcceleration(50)=100 step()=2000",
            "rampIndex()=0 stop()=0 rampIndex()=NONE setAcceleration(51)=50");
        Calls.play("addMove(2,0) removeItem(0)=0");
    }

    /** Before, at and after a wait no move is in progress. */
    private static void waitIsNeverInProgress() {
        Calls.play("addWait(7) addMove(3,0) addWait(8) rampIndex()=NONE stop()=NOT_POSSIBLE step()=7 rampIndex()=NONE",
            "stop()=NOT_POSSIBLE setAcceleration(100)=100 3*step() rampIndex()=NONE stop()=NOT_POSSIBLE",
            "queueLength()=1",
            "setAcceleration(100)=100 removeItem(0)=0");
    }

    /** "A step needs an item in the queue." */
    private static void stepNeedsAnItem() {
        Calls.play("step()=NOT_POSSIBLE addWait(3) step()=3 step()=NOT_POSSIBLE addMove(1,0) step()=1414",
            "step()=NOT_POSSIBLE clock()=1417 addMove(5,0) removeItem(0)=0 step()=NOT_POSSIBLE");
    }

    /** "If the first item is a wait, the step adds its ticks to the clock and removes the item." */
    private static void stepOfAWait() {
        Calls.play("addWait(1) addWait(9999) step()=1 clock()=1 queueLength()=1 itemAt(0)=19999 position(0)=100000",
            "step()=9999 clock()=10000 queueLength()=0 position(1)=100000");
    }

    /** run: "1 to 99999 ... BAD_VALUE if ticks is out of range" */
    private static void runTakes1To99999Ticks() {
        Calls.play("addWait(1) addMove(60,0) run(0)=BAD_VALUE run(100000)=BAD_VALUE run(-1)=BAD_VALUE",
            "run(MIN)=BAD_VALUE",
            "run(MAX)=BAD_VALUE clock()=0 run(1)=1 clock()=1 run(99999)=60 queueLength()=0");
    }

    /** run: "the ticks that are added by this call, with those of the next step, are at most a number" */
    private static void runOfExactlyTheTicks() {
        Calls.play("addWait(500) addMove(4,0) run(499)=0 clock()=0 run(500)=1 clock()=500 run(1999)=1 undo()",
            "run(2000)=2",
            "undo() run(2585)=2 undo() run(2586)=3 itemAt(0)=1 run(1413)=0 run(1414)=1 queueLength()=0 clock()=4500");
        Calls.play("3*addWait(10) run(9)=0 run(29)=2 undo() run(30)=3 queueLength()=0 run(30)=NOT_POSSIBLE");
    }

    /** 9999 and nine steps of 10000 ticks are the most that a run may take. */
    private static void runOfTheMostTicks() {
        String calls = "setSpeedLimit(1) addWait(9999) addMove(9,0) ";
        Calls.play(calls + "run(99998)=9 clock()=89999 queueLength()=1 itemAt(0)=1");
        Calls.play(calls + "run(99999)=10 clock()=99999 queueLength()=0");
        Calls.play(calls + "addWait(1) run(99999)=10 clock()=99999 queueLength()=1 run(1)=1");
    }

    /** "Makes steps, as long as": a step that is too long ends the run, although a later one might fit. */
    private static void runMakesNoStepThatIsTooLong() {
        Calls.play("addMove(3,0) addWait(1) run(3413)=2 itemAt(0)=1 queueLength()=2 run(1413)=0 run(1415)=2");
        Calls.play("addWait(9) addWait(1) run(8)=0 queueLength()=2 run(9)=1 queueLength()=1 run(9)=1");
    }

    /** "as long as the queue is not empty": a run ends with the queue, and goes through waits and moves. */
    private static void runStopsBeforeALongItem() {
        Calls.play("addMove(2,1) addWait(5) addMove(1,1) run(99999)=4 clock()=4247 position(0)=100003",
            "position(1)=100002",
            "queueLength()=0 run(99999)=NOT_POSSIBLE");
        Calls.play("addMove(2,1) addWait(9999) run(12826)=2 queueLength()=1 undo() run(12827)=3 queueLength()=0");
    }
}
