import java.util.ArrayList;
import java.util.List;

/** ERRORS, and "A call that returns an error changes nothing and is not an action", in states that are an edge. */
public final class EdgeErrorTest {
    private static final String EMPTY = "clearText()";
    /**
     * A move in progress before six waits and a move, a full text that is no setup, 14 remembered states, both slots
     * filled.
     */
    private static final String FULL = "80*append(97) 3*setSpeedLimit(90) setSpeedLimit(100) save(0) addMove(12,-3)"
        + " 6*addWait(5) addMove(3,2) 5*step() save(1) setSpeedLimit(250)";
    /** A stopped move, one slot filled, a text of which nothing is wrong but that it ends too soon. */
    private static final String STOPPED = "type(a100v200m+001) setAcceleration(300) addMove(-20,10) addWait(9)"
        + " 4*step() save(1) stop()";
    /** A wait is first, then moves that have not begun; one state is remembered; a move was made before. */
    private static final String WAITING = "type(a050v060w0007m+007-003m-009+002) load() addMove(2,0)";
    private static final String[] STATES = {EMPTY, FULL, STOPPED, WAITING};

    /** Calls that are refused in each state. */
    private static final String REFUSED = "append(-1)=BAD_VALUE append(256)=BAD_VALUE append(MIN)=BAD_VALUE"
        + " position(-1)=NO_SUCH_INDEX position(2)=NO_SUCH_INDEX itemAt(-1)=NO_SUCH_INDEX itemAt(8)=NO_SUCH_INDEX"
        + " interval(-1)=BAD_VALUE interval(1000)=BAD_VALUE approximateInterval(-1)=BAD_VALUE"
        + " approximateInterval(1000)=BAD_VALUE setAcceleration(0)=BAD_VALUE setAcceleration(1000)=BAD_VALUE"
        + " setSpeedLimit(0)=BAD_VALUE setSpeedLimit(1000)=BAD_VALUE addMove(0,0)=BAD_VALUE addMove(1000,1)=BAD_VALUE"
        + " addMove(-1000,1)=BAD_VALUE addMove(1,1000)=BAD_VALUE addMove(1,-1000)=BAD_VALUE addWait(0)=BAD_VALUE"
        + " addWait(10000)=BAD_VALUE run(0)=BAD_VALUE run(100000)=BAD_VALUE removeItem(-1)=NO_SUCH_INDEX"
        + " removeItem(8)=NO_SUCH_INDEX moveTicks(0)=BAD_VALUE moveTicks(1000)=BAD_VALUE"
        + " positionAfter(-1,5)=NO_SUCH_INDEX positionAfter(2,5)=NO_SUCH_INDEX positionAfter(0,-1)=BAD_VALUE"
        + " positionAfter(1,100000)=BAD_VALUE leastAcceleration(0,5)=BAD_VALUE leastAcceleration(1000,5)=BAD_VALUE"
        + " leastAcceleration(5,0)=BAD_VALUE leastAcceleration(5,100000)=BAD_VALUE leastAcceleration(5,10)=NONE"
        + " greatestLength(0)=BAD_VALUE greatestLength(100000)=BAD_VALUE greatestLength(1)=NONE"
        + " runScript(0,4000)=BAD_VALUE runScript(5,4000)=BAD_VALUE runScript(1,-1)=BAD_VALUE"
        + " runScript(1,10000)=BAD_VALUE randomSpeeds(5,0)=BAD_VALUE randomSpeeds(5,501)=BAD_VALUE"
        + " save(-1)=NO_SUCH_INDEX save(2)=NO_SUCH_INDEX restore(-1)=NO_SUCH_INDEX restore(2)=NO_SUCH_INDEX";
    private static final String REFUSED_IN_EMPTY = "itemAt(0)=NO_SUCH_INDEX load()=NOT_POSSIBLE step()=NOT_POSSIBLE"
        + " run(1)=NOT_POSSIBLE run(99999)=NOT_POSSIBLE stop()=NOT_POSSIBLE removeItem(0)=NO_SUCH_INDEX"
        + " undo()=NOT_POSSIBLE restore(0)=NOT_POSSIBLE restore(1)=NOT_POSSIBLE errorPosition()=0 rampIndex()=NONE";
    private static final String REFUSED_IN_FULL = "append(97)=FULL append(0)=FULL append(255)=FULL load()=NOT_POSSIBLE"
        + " addMove(1,1)=FULL addMove(-999,999)=FULL addWait(1)=FULL addWait(9999)=FULL"
        + " setAcceleration(100)=NOT_POSSIBLE setAcceleration(999)=NOT_POSSIBLE removeItem(0)=NOT_POSSIBLE"
        + " errorPosition()=1";
    private static final String REFUSED_IN_STOPPED = "load()=NOT_POSSIBLE setAcceleration(1)=NOT_POSSIBLE"
        + " removeItem(0)=NOT_POSSIBLE removeItem(1)=NO_SUCH_INDEX itemAt(1)=NO_SUCH_INDEX restore(0)=NOT_POSSIBLE";
    private static final String REFUSED_IN_WAITING = "stop()=NOT_POSSIBLE removeItem(4)=NO_SUCH_INDEX"
        + " itemAt(4)=NO_SUCH_INDEX restore(0)=NOT_POSSIBLE restore(1)=NOT_POSSIBLE rampIndex()=NONE";

    /** Calls that answer something, change nothing and are no actions. */
    private static final String ANSWERS = "errorPosition() position(0) position(1) clock() queueLength() itemAt(0)"
        + " rampIndex() topIndex() interval(0) interval(999) approximateInterval(0) approximateInterval(999)"
        + " ticksLeft() moveTicks(1) moveTicks(999) positionAfter(0,0) positionAfter(1,99999)"
        + " leastAcceleration(1,99999) leastAcceleration(999,99999) greatestLength(1) greatestLength(99999)"
        + " runScript(1,1999) runScript(4,1001200130002999) runScript(2,20013000) runScript(4,2001100120021999)"
        + " runScript(1,9999) randomSpeeds(0,1) randomSpeeds(3,500) randomSpeeds(MIN,500)";

    public static void main(String[] args) {
        refusedCallsChangeNothing();
        predictionsAndAnswersChangeNothing();
        refusedCallsAreNoActions();
        theErrorThatIsListedFirst();
        noneOnlyIfNoErrorApplies();
        Check.end();
    }

    /** "A call that returns an error changes nothing": each one alone, in each state. */
    private static void refusedCallsChangeNothing() {
        String[] more = {REFUSED_IN_EMPTY, REFUSED_IN_FULL, REFUSED_IN_STOPPED, REFUSED_IN_WAITING};
        for (int i = 0; i < STATES.length; i++) {
            for (String call : (REFUSED + " " + more[i]).split(" +")) {
                changesNothing(STATES[i], call);
            }
        }
    }

    /** "Methods that predict work on a copy of the state and change nothing." */
    private static void predictionsAndAnswersChangeNothing() {
        for (String state : STATES) {
            for (String call : ANSWERS.split(" +")) {
                changesNothing(state, call);
            }
        }
    }

    private static void changesNothing(String state, String call) {
        List<Integer> want = everything(new Calls(new StepperPlanner()).go(state));
        List<Integer> got = everything(new Calls(new StepperPlanner()).go(state, call));
        Check.holds(call + " changes nothing of " + state + ": " + got + ", before: " + want, got.equals(want));
        Calls.play(state, call);
    }

    /** What can be seen of a planner: the present, all remembered states, the slots and the text. */
    private static List<Integer> everything(Calls calls) {
        List<Integer> seen = new ArrayList<>();
        look(calls, seen);
        int left = calls.answer("undo", "");
        while (left >= 0) {
            seen.add(left);
            look(calls, seen);
            left = calls.answer("undo", "");
        }
        for (String slot : new String[] {"0", "1"}) {
            seen.add(calls.answer("restore", slot));
            look(calls, seen);
        }
        seen.add(calls.answer("errorPosition", ""));
        seen.add(calls.answer("append", "97"));
        seen.add(calls.answer("clearText", ""));
        return seen;
    }

    private static void look(Calls calls, List<Integer> seen) {
        for (String name : new String[] {"clock", "queueLength", "rampIndex", "topIndex", "ticksLeft"}) {
            seen.add(calls.answer(name, ""));
        }
        for (String axis : new String[] {"0", "1"}) {
            seen.add(calls.answer("position", axis));
            seen.add(calls.answer("positionAfter", axis + ",3000"));
        }
        for (int i = 0; i <= 8; i++) {
            seen.add(calls.answer("itemAt", "" + i));
        }
        seen.add(calls.answer("interval", "0"));
        seen.add(calls.answer("interval", "999"));
        seen.add(calls.answer("approximateInterval", "0"));
    }

    /** "and is not an action": of 14 remembered states none is forgotten, however many calls are refused. */
    private static void refusedCallsAreNoActions() {
        String refused = REFUSED + " " + REFUSED_IN_FULL;
        Calls.play(FULL, refused, "undo()=13 undo()=12 12*undo() undo()=NOT_POSSIBLE queueLength()=0",
            "setSpeedLimit(5)=100");
        Calls.play(REFUSED, REFUSED_IN_EMPTY, "undo()=NOT_POSSIBLE addWait(1)=1", REFUSED, "undo()=0",
            "undo()=NOT_POSSIBLE");
        Calls.play("setSpeedLimit(1) setSpeedLimit(2)",
            "undo()=1", REFUSED, REFUSED_IN_EMPTY.replace("undo()=NOT_POSSIBLE", ""),
            "undo()=0 undo()=NOT_POSSIBLE setSpeedLimit(3)=200");
    }

    /** "If several errors apply to a call, the one that is listed first in the description of the method is",
            "returned." */
    private static void theErrorThatIsListedFirst() {
        // append: BAD_VALUE, FULL
        Calls.play("80*append(48) append(-1)=BAD_VALUE append(256)=BAD_VALUE append(255)=FULL");
        // setAcceleration: BAD_VALUE, NOT_POSSIBLE
        Calls.play("addMove(2,0) step() setAcceleration(0)=BAD_VALUE setAcceleration(1000)=BAD_VALUE",
            "setAcceleration(999)=NOT_POSSIBLE setAcceleration(1)=NOT_POSSIBLE");
        // addMove and addWait: BAD_VALUE, FULL
        Calls.play("8*addWait(1) addMove(0,0)=BAD_VALUE addMove(1000,0)=BAD_VALUE addMove(0,-1000)=BAD_VALUE",
            "addMove(1,0)=FULL",
            "addWait(0)=BAD_VALUE addWait(10000)=BAD_VALUE addWait(1)=FULL addWait(9999)=FULL");
        // run: BAD_VALUE, NOT_POSSIBLE
        Calls.play("run(0)=BAD_VALUE run(100000)=BAD_VALUE run(1)=NOT_POSSIBLE run(99999)=NOT_POSSIBLE");
        // removeItem: NO_SUCH_INDEX, NOT_POSSIBLE
        Calls.play("addMove(2,0) step() removeItem(-1)=NO_SUCH_INDEX removeItem(1)=NO_SUCH_INDEX",
            "removeItem(0)=NOT_POSSIBLE");
        // positionAfter: NO_SUCH_INDEX, BAD_VALUE
        Calls.play("positionAfter(2,-1)=NO_SUCH_INDEX positionAfter(-1,100000)=NO_SUCH_INDEX",
            "positionAfter(1,-1)=BAD_VALUE",
            "positionAfter(0,100000)=BAD_VALUE positionAfter(MIN,MIN)=NO_SUCH_INDEX",
            "positionAfter(MAX,MAX)=NO_SUCH_INDEX");
        // restore: NO_SUCH_INDEX, NOT_POSSIBLE
        Calls.play("restore(-1)=NO_SUCH_INDEX restore(2)=NO_SUCH_INDEX restore(0)=NOT_POSSIBLE",
            "restore(1)=NOT_POSSIBLE");
    }

    /** "NONE is not an error; it is returned only if no error applies." */
    private static void noneOnlyIfNoErrorApplies() {
        Calls.play("setSpeedLimit(1) leastAcceleration(1000,1)=BAD_VALUE leastAcceleration(0,1)=BAD_VALUE",
            "leastAcceleration(999,0)=BAD_VALUE leastAcceleration(999,100000)=BAD_VALUE",
            "leastAcceleration(999,99999)=NONE",
            "leastAcceleration(MAX,MAX)=BAD_VALUE greatestLength(0)=BAD_VALUE greatestLength(-1)=BAD_VALUE",
            "greatestLength(1)=NONE greatestLength(9999)=NONE runScript(0,0)=BAD_VALUE runScript(1,14000)=BAD_VALUE",
            "runScript(1,4000)=NONE");
    }
}
