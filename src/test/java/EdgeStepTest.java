/** The edges named under STEPS (the index of a step) and in promises 10 and 18 to 21, a test for each sentence. */
public final class EdgeStepTest {
    public static void main(String[] args) {
        firstStepHasIndex0();
        firstStepHasIndex0WhateverWasBefore();
        indexRisesUpToTheRemainingSteps();
        indexRisesUpToTheTopIndex();
        indexStaysAtTheLimit();
        indexStaysWithTopIndex0();
        indexRisesTo499();
        indexFallsAfterTheSpeedLimitWasLowered();
        indexFallsByOneToTheTopIndex();
        indexFallsTo0();
        indexRisesAgainAfterTheSpeedLimitWasRaised();
        loweredInTheMiddleOfTheFall();
        ticksOfAFallingStep();
        lastStepRemovesTheItem();
        stopNeedsAMoveInProgress();
        stopAtIndex0EndsTheMove();
        stopAtIndex1();
        stopAtTheTop();
        thereAreNeverFewerStepsBefore();
        stopRemovesAllLaterItems();
        stopMakesNoStep();
        stopKeepsTheLength();
        stepsAfterAStop();
        removeItemFromEachPlace();
        removeItemOfAMoveInProgress();
        removeTheFirstItem();
        Check.end();
    }

    /** Steps with the indices that are due; the move must go on behind each of them. */
    private static String indices(int... due) {
        StringBuilder calls = new StringBuilder();
        for (int index : due) {
            calls.append("step() rampIndex()=").append(index).append(' ');
        }
        return calls.toString();
    }

    /** "The first step of a move has the index 0." */
    private static void firstStepHasIndex0() {
        Calls.play("rampIndex()=NONE addMove(2,0) rampIndex()=NONE step()=1414 rampIndex()=0 step()=1414",
            "rampIndex()=NONE");
        Calls.play("setSpeedLimit(999) addMove(999,0) step()=1414 rampIndex()=0");
    }

    /** A move behind another one, a stopped one, an undone one and a loaded one begins with the index 0. */
    private static void firstStepHasIndex0WhateverWasBefore() {
        Calls.play("addMove(5,0) addMove(5,0) 5*step() rampIndex()=NONE " + indices(0, 1, 2, 1));
        Calls.play("addMove(9,0) 4*step() stop()=3 addMove(5,0) 3*step() rampIndex()=NONE " + indices(0, 1));
        Calls.play("addMove(9,0) step() stop()=0 addMove(5,0) " + indices(0, 1));
        Calls.play("addMove(9,0) 3*step() 3*undo() rampIndex()=NONE " + indices(0, 1));
        Calls.play("save(1) addMove(9,0) 3*step() restore(1) addMove(9,0) " + indices(0, 1));
    }

    /** "The index is p + 1 if that is at most the limit": r - 1, of moves of an even and of an odd length */
    private static void indexRisesUpToTheRemainingSteps() {
        Calls.play("addMove(3,0) " + indices(0, 1) + "step()=1414 queueLength()=0");
        Calls.play("addMove(4,0) " + indices(0, 1, 1) + "step()=1414 queueLength()=0");
        Calls.play("addMove(5,0) " + indices(0, 1, 2, 1) + "step()=1414 queueLength()=0");
        Calls.play("addMove(6,0) " + indices(0, 1, 2, 2, 1) + "step()=1414 queueLength()=0");
    }

    /** The limit is "r - 1 or the top index, whichever is less". */
    private static void indexRisesUpToTheTopIndex() {
        Calls.play("setSpeedLimit(20) topIndex()=2 addMove(7,0) " + indices(0, 1, 2, 2, 2, 1) + "step()=1414");
        Calls.play("setSpeedLimit(20) topIndex()=2 addMove(5,0) " + indices(0, 1, 2, 1) + "step()=1414");
        Calls.play("setSpeedLimit(10) topIndex()=1 addMove(4,0) " + indices(0, 1, 1) + "step()=1414");
    }

    /** "otherwise it is p if p is at most the limit": p is the limit, by the steps that remain or by the top index */
    private static void indexStaysAtTheLimit() {
        Calls.play("addMove(2,0) step()=1414 rampIndex()=0 step()=1414 queueLength()=0");
        Calls.play("addMove(8,0) " + indices(0, 1, 2, 3, 3, 2, 1) + "step()=1414 queueLength()=0");
        Calls.play("setSpeedLimit(20) addMove(99,0) " + indices(0, 1, 2, 2, 2, 2, 2) + "itemAt(0)=92");
    }

    /** The top index 0 keeps all steps at the index 0. */
    private static void indexStaysWithTopIndex0() {
        Calls.play("setSpeedLimit(7) topIndex()=0 addMove(5,0) " + indices(0, 0, 0, 0) + "step()=1429 queueLength()=0");
    }

    /** The greatest index of a move is 499, of the longest move with a top index that is not reached. */
    private static void indexRisesTo499() {
        Calls.play("setAcceleration(1) setSpeedLimit(999) topIndex()=999 addMove(999,0) 250*step() rampIndex()=249",
            "249*step() rampIndex()=498 step()=316 rampIndex()=499 step()=317 rampIndex()=498 itemAt(0)=498");
    }

    /** "after the speed limit was lowered during a move, the index falls by 1 with each step" */
    private static void indexFallsAfterTheSpeedLimitWasLowered() {
        Calls.play("addMove(99,0) 7*step() rampIndex()=6 setSpeedLimit(10) topIndex()=1",
            "" + indices(5, 4, 3, 2, 1, 1, 1));
    }

    /** "until it is at most the top index": from the top index itself, and from one more */
    private static void indexFallsByOneToTheTopIndex() {
        Calls.play("addMove(99,0) 3*step() rampIndex()=2 setSpeedLimit(20) topIndex()=2 " + indices(2, 2));
        Calls.play("addMove(99,0) 4*step() rampIndex()=3 setSpeedLimit(20) topIndex()=2 " + indices(2, 2));
        Calls.play("addMove(99,0) 5*step() rampIndex()=4 setSpeedLimit(20) topIndex()=2 " + indices(3, 2, 2));
        Calls.play("addMove(99,0) 2*step() rampIndex()=1 setSpeedLimit(20) topIndex()=2 " + indices(2, 2, 2));
    }

    /** The index falls to the top index 0 and no farther. */
    private static void indexFallsTo0() {
        Calls.play("addMove(99,0) 3*step() rampIndex()=2 setSpeedLimit(1) topIndex()=0 " + indices(1, 0, 0),
            "step()=10000 rampIndex()=0 stop()=0");
    }

    /** "The top index follows from the present acceleration and speed limit." */
    private static void indexRisesAgainAfterTheSpeedLimitWasRaised() {
        Calls.play("addMove(99,0) 5*step() setSpeedLimit(10) " + indices(3, 2) + "setSpeedLimit(200)",
            "" + indices(3, 4, 5));
        Calls.play("setSpeedLimit(10) addMove(9,0) " + indices(0, 1, 1, 1) + "setSpeedLimit(999) "
            + indices(2, 3, 2, 1) + "step()=1414 queueLength()=0");
    }

    /** When the index falls anyway, a lower speed limit only makes the steps slower. */
    private static void loweredInTheMiddleOfTheFall() {
        Calls.play("addMove(9,0) " + indices(0, 1, 2, 3, 4) + "setSpeedLimit(10) step()=1000 rampIndex()=3 step()=1000",
            "rampIndex()=2 step()=1000 rampIndex()=1 step()=1414 queueLength()=0");
        Calls.play("addMove(9,0) 6*step() rampIndex()=3 itemAt(0)=3 setSpeedLimit(1)",
            "" + indices(2, 1) + "step()=10000");
    }

    /** "The step adds the interval of its index to the clock": R(p - 1) or the new cruise interval */
    private static void ticksOfAFallingStep() {
        Calls.play("addMove(99,0) 5*step() clock()=3162 setSpeedLimit(25) topIndex()=3 step()=400 step()=400",
            "clock()=3962",
            "rampIndex()=3");
        // Behind the top index 240 the index 241 has an interval that is greater by 1.
        Calls.play("setAcceleration(1) setSpeedLimit(23) topIndex()=264 addMove(999,0) 243*step() rampIndex()=242",
            "setSpeedLimit(22) step()=456 rampIndex()=241 step()=455 rampIndex()=240 step()=455 rampIndex()=240");
    }

    /** "If no step of the move remains, the item is removed." */
    private static void lastStepRemovesTheItem() {
        Calls.play("addMove(2,0) addWait(6) step() queueLength()=2 itemAt(0)=1 step() queueLength()=1 itemAt(0)=10006",
            "step() queueLength()=0 step()=NOT_POSSIBLE");
    }

    /** stop: "NOT_POSSIBLE if no move is in progress" */
    private static void stopNeedsAMoveInProgress() {
        Calls.play("stop()=NOT_POSSIBLE addWait(1) stop()=NOT_POSSIBLE addMove(2,0) stop()=NOT_POSSIBLE step()",
            "stop()=NOT_POSSIBLE step() stop()=0 stop()=NOT_POSSIBLE queueLength()=0");
        Calls.play("addMove(2,0) 2*step() stop()=NOT_POSSIBLE addMove(9,9) stop()=NOT_POSSIBLE queueLength()=1");
    }

    /** "if that index is 0, the move ends" */
    private static void stopAtIndex0EndsTheMove() {
        Calls.play("addMove(2,2) step() itemAt(0)=1 stop()=0 queueLength()=0 rampIndex()=NONE position(0)=100001",
            "position(1)=100001 clock()=1414 step()=NOT_POSSIBLE ticksLeft()=0 addWait(5)=1 step()=5");
        Calls.play("addMove(999,2) addMove(5,5) addWait(4) step() stop()=0 queueLength()=0 undo()=4 queueLength()=3");
        // At a top index 0 the index is 0 in the middle of the move.
        Calls.play("setSpeedLimit(1) addMove(9,0) 5*step() rampIndex()=0 itemAt(0)=4 stop()=0 queueLength()=0");
    }

    /** "as many of its steps remain as the index of the step that was made last" */
    private static void stopAtIndex1() {
        Calls.play("addMove(999,0) 2*step() itemAt(0)=997 stop()=1 itemAt(0)=1 rampIndex()=1 ticksLeft()=1414",
            "step()=1414",
            "rampIndex()=NONE position(0)=100003 queueLength()=0");
    }

    /** The same at a high index, and at the top index after many steps. */
    private static void stopAtTheTop() {
        Calls.play("addMove(-999,0) 300*step() rampIndex()=195 itemAt(0)=699 stop()=195 itemAt(0)=195",
            "ticksLeft()=19748 90*step() rampIndex()=105 itemAt(0)=105 position(0)=99610");
    }

    /** "(there are never fewer before)": as many remain as the index on the way down, and stop changes nothing of it */
    private static void thereAreNeverFewerStepsBefore() {
        Calls.play("addMove(8,0) addWait(3) 5*step() rampIndex()=3 itemAt(0)=3 stop()=3 itemAt(0)=3 queueLength()=1",
            "step() rampIndex()=2 itemAt(0)=2 stop()=2 step() stop()=1 itemAt(0)=1 step()=1414 stop()=NOT_POSSIBLE");
        Calls.play("addMove(9,0) 5*step() rampIndex()=4 itemAt(0)=4 stop()=4 stop()=4 step() stop()=3",
            "ticksLeft()=2449");
        Calls.play("addMove(7,0) 3*step() rampIndex()=2 itemAt(0)=4 stop()=2 itemAt(0)=2 stop()=2 undo() undo()",
            "itemAt(0)=4");
    }

    /** "All later items are removed from the queue." */
    private static void stopRemovesAllLaterItems() {
        Calls.play("addMove(9,0) addWait(1) addMove(1,1) 5*addWait(2) queueLength()=8 2*step() stop()=1",
            "queueLength()=1",
            "itemAt(1)=NO_SUCH_INDEX addWait(3)=2 itemAt(1)=10003 stop()=1 queueLength()=1 undo() queueLength()=2");
        Calls.play("addMove(9,0) 7*addMove(8,0) step() stop()=0 queueLength()=0 8*addWait(1) queueLength()=8");
    }

    /** "This call makes no step." */
    private static void stopMakesNoStep() {
        Calls.play("addMove(9,-9) 3*step() stop()=2 clock()=2449 position(0)=100003 position(1)=99997 rampIndex()=2");
        Calls.play("addMove(9,-9) step() stop()=0 clock()=1414 position(0)=100001 position(1)=99999");
    }

    /** "The length of the move, which determines the steps of the follower, stays the same." */
    private static void stopKeepsTheLength() {
        // floor((2 * k * 3 + 12) / 24): 0 1 1 1 1 of 5 steps; with the length 5 it would be 1 1 2 2 3.
        Calls.play("addMove(12,-3) step() position(1)=100000 step() position(1)=99999 step() stop()=2",
            "position(1)=99999",
            "step() position(1)=99999 step() position(1)=99999 position(0)=100005 queueLength()=0");
        Calls.play("addMove(999,998) 4*step() stop()=3 3*step() position(0)=100007 position(1)=100007 queueLength()=0");
    }

    /** After a stop the index falls to 0, whatever the speed limit becomes. */
    private static void stepsAfterAStop() {
        Calls.play("addMove(99,0) 5*step() stop()=4 setSpeedLimit(999) " + indices(3, 2, 1) + "step()=1414",
            "queueLength()=0");
        Calls.play("addMove(99,0) 5*step() stop()=4 setSpeedLimit(1) " + indices(3, 2, 1) + "step()=10000",
            "queueLength()=0");
        Calls.play("addMove(99,0) 5*step() setSpeedLimit(1) " + indices(3, 2) + "stop()=2",
            "" + indices(1) + "step()=10000");
    }

    /** removeItem: "NO_SUCH_INDEX if there is no such item" */
    private static void removeItemFromEachPlace() {
        String eight = "addWait(1) addWait(2) addWait(3) addWait(4) addWait(5) addWait(6) addWait(7) addWait(8) ";
        Calls.play("removeItem(0)=NO_SUCH_INDEX removeItem(-1)=NO_SUCH_INDEX " + eight + "removeItem(-1)=NO_SUCH_INDEX",
            "removeItem(8)=NO_SUCH_INDEX removeItem(MIN)=NO_SUCH_INDEX removeItem(MAX)=NO_SUCH_INDEX",
            "removeItem(7)=7 removeItem(7)=NO_SUCH_INDEX itemAt(6)=10007 removeItem(0)=6 itemAt(0)=10002",
            "itemAt(5)=10007",
            "itemAt(6)=NO_SUCH_INDEX removeItem(3)=5 itemAt(2)=10004 itemAt(3)=10006 itemAt(4)=10007 5*removeItem(0)",
            "queueLength()=0 removeItem(0)=NO_SUCH_INDEX");
        for (int i = 0; i < 8; i++) {
            StringBuilder calls = new StringBuilder(eight + "removeItem(" + i + ")=7");
            for (int k = 0; k < 7; k++) {
                calls.append(" itemAt(").append(k).append(")=").append(10001 + k + (k >= i ? 1 : 0));
            }
            Calls.play(calls + " itemAt(7)=NO_SUCH_INDEX ticksLeft()=" + (35 - i));
        }
    }

    /** removeItem: "NOT_POSSIBLE if it is a move in progress" */
    private static void removeItemOfAMoveInProgress() {
        Calls.play("addMove(3,0) addMove(4,0) step() removeItem(0)=NOT_POSSIBLE removeItem(2)=NO_SUCH_INDEX",
            "removeItem(1)=1",
            "removeItem(0)=NOT_POSSIBLE removeItem(1)=NO_SUCH_INDEX 2*step() removeItem(0)=NO_SUCH_INDEX");
        Calls.play("addMove(9,0) 2*step() stop()=1 removeItem(0)=NOT_POSSIBLE step() removeItem(0)=NO_SUCH_INDEX");
    }

    /** A move or a wait at the front that has not begun may be removed, and the next one begins at its first step. */
    private static void removeTheFirstItem() {
        Calls.play("addMove(3,0) addMove(0,4) removeItem(0)=1 itemAt(0)=4 rampIndex()=NONE step()=1414 rampIndex()=0",
            "position(0)=100000 position(1)=100001 itemAt(0)=3");
        Calls.play("addMove(2,0) addWait(8) addMove(0,4) 2*step() removeItem(0)=1 itemAt(0)=4 step() itemAt(0)=3");
    }
}
