/** The edges named under ACTIONS AND UNDO and in promises 14, 15, 22, 30 and 31, a test for each sentence. */
public final class EdgeUndoTest {
    public static void main(String[] args) {
        undoNeedsARememberedState();
        thirteenFourteenAndFifteenActions();
        aFifteenthActionForgetsTheOldest();
        manyActionsRememberFourteen();
        actionAfterUndo();
        fullHistoryAfterUndo();
        eachSuccessfulCallIsAnAction();
        actionThatLeavesTheStateEqual();
        runThatMakesNoStepIsAnAction();
        undoTakesBackEachPartOfTheState();
        undoTakesBackTheProgress();
        undoTakesBackAMoveThatEnded();
        undoIsNoAction();
        loadIsNoAction();
        restoreIsNoAction();
        saveIsNoAction();
        textIsNoPartOfTheState();
        slotsAreNoPartOfTheState();
        accelerationWhileAMoveIsInProgress();
        speedLimitWhileAMoveIsInProgress();
        slotIs0Or1();
        slotIsEmptyAtFirst();
        saveAnswersTheItems();
        saveReplacesTheStateOfTheSlot();
        slotKeepsItsState();
        restoreReplacesEachPartOfTheState();
        restoreForgetsAllRememberedStates();
        Check.end();
    }

    private static String speedLimits(int first, int last) {
        StringBuilder calls = new StringBuilder();
        for (int v = first; v <= last; v++) {
            calls.append("setSpeedLimit(").append(v).append(") ");
        }
        return calls.toString();
    }

    /** Undo until no state is remembered, with the answers that are due. */
    private static String undos(int remembered) {
        StringBuilder calls = new StringBuilder();
        for (int left = remembered - 1; left >= 0; left--) {
            calls.append("undo()=").append(left).append(' ');
        }
        return calls + "undo()=NOT_POSSIBLE undo()=NOT_POSSIBLE ";
    }

    /** undo: "NOT_POSSIBLE if none is remembered" */
    private static void undoNeedsARememberedState() {
        Calls.play("undo()=NOT_POSSIBLE undo()=NOT_POSSIBLE setSpeedLimit(5)=200 undo()=0 undo()=NOT_POSSIBLE",
            "setSpeedLimit(6)=200 undo()=0 undo()=NOT_POSSIBLE");
    }

    /** "the state before each of the last 14 actions" */
    private static void thirteenFourteenAndFifteenActions() {
        Calls.play(speedLimits(1, 13) + undos(13) + "setSpeedLimit(99)=200");
        Calls.play(speedLimits(1, 14) + undos(14) + "setSpeedLimit(99)=200");
        Calls.play(speedLimits(1, 15) + undos(14) + "setSpeedLimit(99)=1");
    }

    /** "when a fifteenth action happens, the oldest remembered state is forgotten" */
    private static void aFifteenthActionForgetsTheOldest() {
        Calls.play(speedLimits(1, 15) + "undo()=13 setSpeedLimit(77)=14 13*undo() undo()=0 undo()=NOT_POSSIBLE",
            "setSpeedLimit(99)=1");
        Calls.play("addWait(1) addWait(2) 12*setSpeedLimit(5) step() " + undos(14) + "queueLength()=1 itemAt(0)=10001");
        Calls.play("addWait(9) " + speedLimits(1, 14) + undos(14) + "queueLength()=1 itemAt(0)=10009");
    }

    /** The same after many more actions: the ring of states went round several times. */
    private static void manyActionsRememberFourteen() {
        for (int actions : new int[] {16, 27, 28, 29, 30, 42, 43, 200}) {
            Calls.play(speedLimits(1, actions) + undos(14) + "setSpeedLimit(999)=" + (actions - 14));
        }
    }

    /** An undone action is replaced by the next one. */
    private static void actionAfterUndo() {
        Calls.play("setSpeedLimit(1) setSpeedLimit(2) setSpeedLimit(3) undo()=2 undo()=1 setSpeedLimit(4)=1 undo()=1",
            "setSpeedLimit(5)=1 setSpeedLimit(6)=5 undo()=2 undo()=1 undo()=0 setSpeedLimit(7)=200");
    }

    /** As many states are forgotten as come in beyond 14, whatever was undone between. */
    private static void fullHistoryAfterUndo() {
        Calls.play(speedLimits(1, 14) + "undo()=13 setSpeedLimit(50)=13 undo()=13 setSpeedLimit(51)=13",
            "setSpeedLimit(52)",
            undos(14) + "setSpeedLimit(99)=1");
        Calls.play(speedLimits(1, 20) + "5*undo() " + speedLimits(101, 105) + undos(14) + "setSpeedLimit(99)=6");
        Calls.play(speedLimits(1, 20) + undos(14) + speedLimits(101, 115) + undos(14) + "setSpeedLimit(99)=101");
    }

    /** "Each successful call of one of them is an action" */
    private static void eachSuccessfulCallIsAnAction() {
        Calls.play("setAcceleration(5) undo()=0 setSpeedLimit(5) undo()=0 addMove(3,0) undo()=0 addWait(3) undo()=0");
        Calls.play("addMove(9,0) step() undo()=1 run(1414)=1 undo()=1 removeItem(0)=0 undo()=1 step() stop()=0",
            "undo()=2");
        Calls.play("setAcceleration(5) setSpeedLimit(5) addMove(9,0) addWait(7) step() run(99999)=9 undo()=5 stop()=0 "
            + "undo()=5 removeItem(1)=1 undo()=5 queueLength()=2 " + undos(5) + "queueLength()=0",
            "setAcceleration(9)=100");
    }

    /** "even if the state stays equal" */
    private static void actionThatLeavesTheStateEqual() {
        Calls.play("setAcceleration(100)=100 " + undos(1) + "setSpeedLimit(200)=200 setSpeedLimit(200)=200",
            "" + undos(2));
        Calls.play("addMove(9,0) 2*step() stop()=1 stop()=1 stop()=1 " + undos(6));
    }

    /** run: "(A call that makes no step is an action, too.)" */
    private static void runThatMakesNoStepIsAnAction() {
        Calls.play("addMove(2,0) run(1413)=0 run(1)=0 undo()=2 undo()=1 queueLength()=1 undo()=0 queueLength()=0");
        Calls.play("addWait(9) " + "run(8)=0 ".repeat(14) + undos(14) + "queueLength()=1");
        Calls.play("addWait(9) " + "run(8)=0 ".repeat(13) + undos(14) + "queueLength()=0");
    }

    /** "the state, which consists of the acceleration, the speed limit, the positions, the clock, the queue" */
    private static void undoTakesBackEachPartOfTheState() {
        Calls.play("setAcceleration(200)=100 undo()=0 interval(0)=1414 setAcceleration(100)=100");
        Calls.play("setSpeedLimit(20)=200 topIndex()=2 undo()=0 topIndex()=195 setSpeedLimit(200)=200");
        Calls.play("addMove(-3,2) addWait(6) run(99999)=4 position(0)=99997 position(1)=100002 clock()=3420",
            "queueLength()=0",
            "undo()=2 position(0)=100000 position(1)=100000 clock()=0 queueLength()=2 itemAt(0)=3 itemAt(1)=10006",
            "itemAt(2)=NO_SUCH_INDEX undo()=1 itemAt(1)=NO_SUCH_INDEX undo()=0 itemAt(0)=NO_SUCH_INDEX");
        Calls.play("addWait(1) addMove(2,-1) addWait(3) removeItem(1)=2 itemAt(1)=10003 undo()=3 itemAt(1)=2",
            "itemAt(2)=10003",
            "run(99999)=4 position(1)=99999");
        Calls.play("8*addWait(4) removeItem(0)=7 addWait(5)=8 itemAt(7)=10005 undo()=9 undo()=8 itemAt(7)=10004",
            "addWait(5)=FULL");
    }

    /** "and the progress of the present move" */
    private static void undoTakesBackTheProgress() {
        Calls.play("addMove(12,-3) step() rampIndex()=0 step() rampIndex()=1 position(1)=99999 undo()=2 rampIndex()=0",
            "itemAt(0)=11 position(1)=100000 step()=586 position(1)=99999 undo()=2 undo()=1 rampIndex()=NONE",
            "itemAt(0)=12",
            "removeItem(0)=0");
        Calls.play("addMove(20,0) addWait(3) 5*step() stop()=4 step() undo()=8 undo()=7 itemAt(0)=15 queueLength()=2",
            "step()=302 rampIndex()=5 ticksLeft()=5483");
    }

    /** The move that ended by its last step, by a stop or by a run is in progress again. */
    private static void undoTakesBackAMoveThatEnded() {
        Calls.play("addMove(2,1) 2*step() rampIndex()=NONE undo()=2 rampIndex()=0 itemAt(0)=1 position(1)=100001",
            "step()=1414",
            "position(0)=100002 position(1)=100001");
        Calls.play("addMove(9,0) addWait(4) step() stop()=0 rampIndex()=NONE undo()=3 rampIndex()=0 itemAt(0)=8",
            "itemAt(1)=10004",
            "step()=586");
        Calls.play("addMove(9,3) 3*step() run(99999)=6 undo()=4 rampIndex()=2 itemAt(0)=6 position(1)=100001",
            "run(99999)=6",
            "position(0)=100009 position(1)=100003");
    }

    /** "undo, load and restore are not actions": an undo is not taken back by the next one */
    private static void undoIsNoAction() {
        Calls.play("setSpeedLimit(1) setSpeedLimit(2) undo()=1 undo()=0 undo()=NOT_POSSIBLE setSpeedLimit(3)=200");
    }

    /** A load is not taken back: not one that succeeds and not one that is refused. */
    private static void loadIsNoAction() {
        Calls.play("type(a100v200w0001) load()=1 undo()=NOT_POSSIBLE queueLength()=1");
        Calls.play("setSpeedLimit(1) load()=NOT_POSSIBLE undo()=0 undo()=NOT_POSSIBLE");
    }

    /** A restore is not taken back: not one that succeeds and not one that is refused. */
    private static void restoreIsNoAction() {
        Calls.play("save(0)=0 addWait(1) restore(0)=0 undo()=NOT_POSSIBLE queueLength()=0");
        Calls.play("addWait(1) restore(0)=NOT_POSSIBLE restore(2)=NO_SUCH_INDEX undo()=0 undo()=NOT_POSSIBLE");
    }

    /** save is no method of the section "actions". */
    private static void saveIsNoAction() {
        Calls.play("addWait(1) save(0)=1 save(1)=1 save(2)=NO_SUCH_INDEX undo()=0 undo()=NOT_POSSIBLE queueLength()=0");
    }

    /** "The text and the save slots are not part of the state." */
    private static void textIsNoPartOfTheState() {
        Calls.play("append(97) addWait(1) append(49) undo()=0 append(48)=3 errorPosition()=3 save(0) clearText()=3",
            "append(98) restore(0)=0 clearText()=1");
        Calls.play("addWait(1) type(a100) clearText()=4 undo()=0 clearText()=0");
    }

    /** The same of the slots: undo neither empties nor fills one. */
    private static void slotsAreNoPartOfTheState() {
        Calls.play("addWait(1) save(0)=1 addWait(2) save(1)=2 undo()=1 undo()=0 queueLength()=0 restore(1)=2",
            "restore(0)=1");
        Calls.play("addWait(1) save(0)=1 undo()=0 save(0)=0 addWait(3) undo()=0 restore(0)=0");
    }

    /** setAcceleration: "NOT_POSSIBLE if a move is in progress", behind "BAD_VALUE if a is out of range" */
    private static void accelerationWhileAMoveIsInProgress() {
        Calls.play("addMove(3,0) setAcceleration(99)=100 step() setAcceleration(98)=NOT_POSSIBLE",
            "setAcceleration(99)=NOT_POSSIBLE setAcceleration(1)=NOT_POSSIBLE setAcceleration(999)=NOT_POSSIBLE",
            "setAcceleration(0)=BAD_VALUE setAcceleration(1000)=BAD_VALUE interval(0)=1421 2*step()",
            "setAcceleration(98)=99");
    }

    /** setSpeedLimit is possible then. */
    private static void speedLimitWhileAMoveIsInProgress() {
        Calls.play("addMove(3,0) step() setSpeedLimit(1)=200 setSpeedLimit(0)=BAD_VALUE setSpeedLimit(1000)=BAD_VALUE",
            "setSpeedLimit(999)=1 setSpeedLimit(200)=999 step()=586");
    }

    /** "0 or 1 ... NO_SUCH_INDEX if slot is not 0 or 1" */
    private static void slotIs0Or1() {
        Calls.play("save(-1)=NO_SUCH_INDEX save(0)=0 save(1)=0 save(2)=NO_SUCH_INDEX save(MIN)=NO_SUCH_INDEX",
            "save(MAX)=NO_SUCH_INDEX restore(-1)=NO_SUCH_INDEX restore(0)=0 restore(1)=0 restore(2)=NO_SUCH_INDEX",
            "restore(MIN)=NO_SUCH_INDEX restore(MAX)=NO_SUCH_INDEX");
    }

    /** restore: "NOT_POSSIBLE if the slot is empty" */
    private static void slotIsEmptyAtFirst() {
        Calls.play("restore(0)=NOT_POSSIBLE restore(1)=NOT_POSSIBLE restore(2)=NO_SUCH_INDEX restore(-1)=NO_SUCH_INDEX",
            "save(1)=0 restore(0)=NOT_POSSIBLE restore(1)=0 save(0)=0 restore(0)=0");
        Calls.play("save(0)=0 restore(1)=NOT_POSSIBLE restore(0)=0");
        Calls.play("save(0) save(1) type(a100v200) load()=0 restore(0)=NOT_POSSIBLE restore(1)=NOT_POSSIBLE save(1)=0",
            "restore(0)=NOT_POSSIBLE restore(1)=0");
    }

    /** save and restore: "Returns the number of items in the queue" */
    private static void saveAnswersTheItems() {
        Calls.play("save(0)=0 8*addWait(3) save(1)=8 restore(0)=0 queueLength()=0 restore(1)=8 queueLength()=8",
            "step() save(0)=7 restore(1)=8 addWait(1)=FULL restore(0)=7 addWait(1)=8");
    }

    /** A slot that was filled is filled anew. */
    private static void saveReplacesTheStateOfTheSlot() {
        Calls.play("8*addWait(3) save(0)=8 7*removeItem(0) save(0)=1 addWait(4) restore(0)=1 itemAt(0)=10003",
            "itemAt(1)=NO_SUCH_INDEX addMove(2,0)=2 itemAt(1)=2");
    }

    /** "The slot keeps its state." */
    private static void slotKeepsItsState() {
        Calls.play("addMove(5,0) addWait(6) save(0)=2 2*step() restore(0)=2 itemAt(0)=5 rampIndex()=NONE step()",
            "restore(0)=2",
            "itemAt(0)=5 clock()=0 removeItem(0)=1 addWait(9) restore(0)=2 itemAt(0)=5 itemAt(1)=10006");
        Calls.play("save(0)=0 save(1)=0 addWait(1) restore(0)=0 addWait(2) restore(1)=0 queueLength()=0");
    }

    /** restore: "Replaces the state by the one in a slot": each part, of a move in progress, too */
    private static void restoreReplacesEachPartOfTheState() {
        Calls.play("setAcceleration(200) setSpeedLimit(20) addMove(-12,3) addWait(8) 2*step() save(1)=2 run(99999)=11",
            "setAcceleration(1) setSpeedLimit(999) 3*addWait(2) restore(1)=2 position(0)=99998 position(1)=100001",
            "clock()=1500 rampIndex()=1 itemAt(0)=10 itemAt(1)=10008 itemAt(2)=NO_SUCH_INDEX interval(0)=1000",
            "topIndex()=1 setAcceleration(5)=NOT_POSSIBLE setSpeedLimit(200)=20 step()=318 rampIndex()=2",
            "position(1)=100001 run(99999)=10 position(0)=99988 position(1)=100003");
        Calls.play("save(0) addMove(9,0) step() restore(0)=0 rampIndex()=NONE stop()=NOT_POSSIBLE",
            "setAcceleration(5)=100");
    }

    /** restore: "and forgets all remembered states" */
    private static void restoreForgetsAllRememberedStates() {
        Calls.play("save(0) " + speedLimits(1, 20) + "restore(0)=0 " + undos(0) + speedLimits(1, 3) + undos(3));
        Calls.play("setSpeedLimit(1) restore(1)=NOT_POSSIBLE restore(-1)=NO_SUCH_INDEX " + undos(1));
    }
}
