/** The edges named under PREDICTIONS and in promises 23 to 27, a test for each sentence. */
public final class EdgePredictionTest {
    public static void main(String[] args) {
        ticksLeftOfAnEmptyQueue();
        ticksLeftOfOneItem();
        ticksLeftOfAFullQueue();
        ticksLeftInAMove();
        lengthOfMoveTicksIs1To999();
        moveTicksAreOfThePresentValues();
        axisOfPositionAfterIs0Or1();
        ticksOfPositionAfterAre0To99999();
        positionAfter0TicksAndOfAnEmptyQueue();
        positionAfterExactlyTheTicks();
        positionAfterTheMostTicks();
        lengthOfLeastAccelerationIs1To999();
        ticksOfLeastAccelerationAre1To99999();
        leastAccelerationMayBe1();
        leastAccelerationMayBeTheGreatest();
        leastAccelerationMayNotExist();
        leastAccelerationOfExactlyTheTicks();
        greaterAccelerationNeedNotBeFaster();
        leastAccelerationHasThePresentSpeedLimit();
        ticksOfGreatestLengthAre1To99999();
        greatestLengthIs1To999();
        greatestLengthMayNotExist();
        greatestLengthOfExactlyTheTicks();
        predictionsDoNotHeedAMoveInProgress();
        Check.end();
    }

    /** "until the queue is empty": at once, before the first item, behind the last, after a stop at the index 0 */
    private static void ticksLeftOfAnEmptyQueue() {
        Calls.play("ticksLeft()=0 addWait(3) step() ticksLeft()=0 addMove(2,0) step() stop()=0 ticksLeft()=0",
            "addWait(5) removeItem(0) ticksLeft()=0");
    }

    private static void ticksLeftOfOneItem() {
        Calls.play("addWait(1) ticksLeft()=1 step()=1 addMove(1,0) ticksLeft()=1414 step()=1414 addWait(9999)",
            "ticksLeft()=9999");
    }

    private static void ticksLeftOfAFullQueue() {
        Calls.play("8*addWait(9999) ticksLeft()=79992");
        Calls.play("setAcceleration(1) setSpeedLimit(1) 8*addMove(999,-999) ticksLeft()=79986272 step()=14142",
            "ticksLeft()=79972130");
        Calls.play("7*addWait(1) addMove(2,0) ticksLeft()=2835 run(1000)=7 ticksLeft()=2828");
    }

    /** "makes steps as described above": with the lowered limit, and the steps that remain after a stop */
    private static void ticksLeftInAMove() {
        Calls.play("addMove(6,0) 3*step() ticksLeft()=2449 setSpeedLimit(10) ticksLeft()=3414 undo() stop()=2",
            "ticksLeft()=2000 step() ticksLeft()=1414 step() ticksLeft()=0");
        Calls.play("setSpeedLimit(20) addMove(99,0) 3*step() setSpeedLimit(999) ticksLeft()=17450 stop()=2",
            "ticksLeft()=2000");
    }

    /** moveTicks: "length of a move, 1 to 999 ... BAD_VALUE if length is out of range" */
    private static void lengthOfMoveTicksIs1To999() {
        Calls.play("moveTicks(0)=BAD_VALUE moveTicks(1)=1414 moveTicks(2)=2828 moveTicks(999)=69946",
            "moveTicks(1000)=BAD_VALUE moveTicks(-1)=BAD_VALUE moveTicks(MIN)=BAD_VALUE moveTicks(MAX)=BAD_VALUE");
    }

    /** moveTicks: "with the present acceleration and speed limit" */
    private static void moveTicksAreOfThePresentValues() {
        Calls.play("setAcceleration(1) moveTicks(1)=14142 moveTicks(999)=632138 setSpeedLimit(1) moveTicks(1)=14142",
            "moveTicks(3)=38284 moveTicks(999)=9998284 setAcceleration(999) moveTicks(999)=9990000 moveTicks(1)=10000",
            "setSpeedLimit(999) moveTicks(999)=20043 moveTicks(1)=447");
    }

    /** positionAfter: "NO_SUCH_INDEX if axis is not 0 or 1", before "BAD_VALUE if ticks is out of range" */
    private static void axisOfPositionAfterIs0Or1() {
        Calls.play("addMove(2,-3) positionAfter(-1,0)=NO_SUCH_INDEX positionAfter(0,1414)=100001",
            "positionAfter(1,1414)=99999 positionAfter(2,0)=NO_SUCH_INDEX positionAfter(MIN,9)=NO_SUCH_INDEX",
            "positionAfter(MAX,9)=NO_SUCH_INDEX positionAfter(2,-1)=NO_SUCH_INDEX",
            "positionAfter(-1,100000)=NO_SUCH_INDEX");
    }

    /** positionAfter: "0 to 99999" */
    private static void ticksOfPositionAfterAre0To99999() {
        Calls.play("addMove(5,5) positionAfter(0,-1)=BAD_VALUE positionAfter(0,0)=100000 positionAfter(1,99999)=100005",
            "positionAfter(1,100000)=BAD_VALUE positionAfter(1,-1)=BAD_VALUE positionAfter(0,100000)=BAD_VALUE",
            "positionAfter(0,MIN)=BAD_VALUE positionAfter(0,MAX)=BAD_VALUE");
    }

    /** "(for 0 ticks and for an empty queue the present position)" */
    private static void positionAfter0TicksAndOfAnEmptyQueue() {
        Calls.play("positionAfter(0,0)=100000 positionAfter(1,99999)=100000 addMove(-2,3) 3*step()",
            "positionAfter(0,0)=99998",
            "positionAfter(1,99999)=100003 positionAfter(0,99999)=99998 positionAfter(1,0)=100003",
            "addMove(9,9) positionAfter(0,0)=99998 step() positionAfter(0,0)=99999 positionAfter(1,0)=100004");
    }

    /** "after all steps that run(ticks) would make": at and below the sums */
    private static void positionAfterExactlyTheTicks() {
        Calls.play("addWait(5) addMove(3,0) positionAfter(0,1418)=100000 positionAfter(0,1419)=100001",
            "positionAfter(0,2004)=100001 positionAfter(0,2005)=100002 positionAfter(0,3418)=100002",
            "positionAfter(0,3419)=100003 positionAfter(0,99999)=100003 positionAfter(0,1)=100000");
    }

    /** The same with the most ticks, which just fit. */
    private static void positionAfterTheMostTicks() {
        Calls.play("setSpeedLimit(1) addWait(9999) addMove(-10,10) positionAfter(0,99998)=99992",
            "positionAfter(0,99999)=99991",
            "positionAfter(1,99999)=100009 step() positionAfter(0,99999)=99991 positionAfter(1,90000)=100009",
            "positionAfter(1,89999)=100008");
    }

    /** leastAcceleration: "length of a move, 1 to 999" */
    private static void lengthOfLeastAccelerationIs1To999() {
        Calls.play("leastAcceleration(0,99999)=BAD_VALUE leastAcceleration(1,99999)=1 leastAcceleration(999,99999)=40",
            "leastAcceleration(1000,99999)=BAD_VALUE leastAcceleration(-1,99999)=BAD_VALUE",
            "leastAcceleration(MIN,99999)=BAD_VALUE leastAcceleration(MAX,99999)=BAD_VALUE");
    }

    /** leastAcceleration: ticks "1 to 99999" */
    private static void ticksOfLeastAccelerationAre1To99999() {
        Calls.play("leastAcceleration(1,0)=BAD_VALUE leastAcceleration(1,1)=NONE leastAcceleration(1,99999)=1",
            "leastAcceleration(1,100000)=BAD_VALUE leastAcceleration(1,-1)=BAD_VALUE",
            "leastAcceleration(1,MIN)=BAD_VALUE",
            "leastAcceleration(1,MAX)=BAD_VALUE leastAcceleration(0,0)=BAD_VALUE leastAcceleration(1000,1)=BAD_VALUE",
            "leastAcceleration(999,0)=BAD_VALUE leastAcceleration(999,1)=NONE");
    }

    /** "the smallest acceleration from 1" */
    private static void leastAccelerationMayBe1() {
        Calls.play("leastAcceleration(1,14142)=1 leastAcceleration(1,14141)=2 leastAcceleration(2,28284)=1",
            "leastAcceleration(2,28283)=2 setSpeedLimit(1) leastAcceleration(9,98284)=1 leastAcceleration(9,98283)=2",
            "leastAcceleration(9,90000)=2 leastAcceleration(9,89999)=NONE");
    }

    /** "to 999" */
    private static void leastAccelerationMayBeTheGreatest() {
        Calls.play("leastAcceleration(3,1079)=999 leastAcceleration(3,1078)=NONE leastAcceleration(999,51952)=999",
            "leastAcceleration(999,51951)=NONE leastAcceleration(1,447)=997 leastAcceleration(1,446)=NONE");
    }

    /** "NONE if there is no such acceleration from 1 to 999" */
    private static void leastAccelerationMayNotExist() {
        Calls.play("setSpeedLimit(1) leastAcceleration(1,9999)=NONE leastAcceleration(1,10000)=2",
            "leastAcceleration(9,99999)=1 leastAcceleration(10,99999)=NONE leastAcceleration(999,99999)=NONE",
            "setSpeedLimit(2) leastAcceleration(2,9999)=NONE leastAcceleration(2,10000)=8 setSpeedLimit(999)",
            "leastAcceleration(999,20036)=NONE leastAcceleration(999,1)=NONE leastAcceleration(1,446)=NONE");
    }

    /** "with which a move of this length takes at most so many ticks" */
    private static void leastAccelerationOfExactlyTheTicks() {
        // T(1) is 1000 with 200, and 1002 with 199.
        Calls.play("leastAcceleration(1,1000)=200 leastAcceleration(1,999)=201 leastAcceleration(1,1001)=200",
            "leastAcceleration(1,1002)=199");
        // With the acceleration 917 the longest move takes 99999 ticks, with 486 and the speed limit 103 one more.
        Calls.play("setSpeedLimit(102) leastAcceleration(999,99999)=917 leastAcceleration(999,99998)=919",
            "setSpeedLimit(103)",
            "leastAcceleration(999,99999)=487 setSpeedLimit(101) leastAcceleration(999,99999)=NONE",
            "setAcceleration(486) setSpeedLimit(103) moveTicks(999)=100000 setAcceleration(487) moveTicks(999)=99996");
    }

    /** "(a greater one need not be faster)" */
    private static void greaterAccelerationNeedNotBeFaster() {
        Calls.play("setSpeedLimit(999) setAcceleration(809) moveTicks(999)=22161 setAcceleration(810)",
            "moveTicks(999)=22137",
            "setAcceleration(811) moveTicks(999)=22139 leastAcceleration(999,22137)=810",
            "leastAcceleration(999,22138)=810",
            "leastAcceleration(999,22139)=810 leastAcceleration(999,22136)=812 leastAcceleration(999,22160)=810",
            "leastAcceleration(999,22161)=809");
        // The fastest of all is not the greatest.
        Calls.play("setSpeedLimit(999) setAcceleration(998) moveTicks(999)=20037 setAcceleration(999)",
            "moveTicks(999)=20043",
            "leastAcceleration(999,20037)=998 leastAcceleration(999,20043)=998 leastAcceleration(999,20036)=NONE");
    }

    /** "with the present speed limit", whatever the present acceleration is */
    private static void leastAccelerationHasThePresentSpeedLimit() {
        Calls.play("leastAcceleration(5,5000)=80 setAcceleration(1) leastAcceleration(5,5000)=80 setAcceleration(999)",
            "leastAcceleration(5,5000)=80 setSpeedLimit(1) leastAcceleration(5,5000)=NONE leastAcceleration(5,50000)=2",
            "undo() leastAcceleration(5,5000)=80 interval(0)=447");
    }

    /** greatestLength: "1 to 99999 ... BAD_VALUE if ticks is out of range" */
    private static void ticksOfGreatestLengthAre1To99999() {
        Calls.play("greatestLength(0)=BAD_VALUE greatestLength(1)=NONE greatestLength(99999)=999",
            "greatestLength(100000)=BAD_VALUE greatestLength(-1)=BAD_VALUE greatestLength(MIN)=BAD_VALUE",
            "greatestLength(MAX)=BAD_VALUE");
    }

    /** "the greatest length from 1 to 999" */
    private static void greatestLengthIs1To999() {
        Calls.play("greatestLength(1414)=1 greatestLength(2827)=1 greatestLength(2828)=2 greatestLength(69945)=998",
            "greatestLength(69946)=999 greatestLength(69947)=999 setAcceleration(999) setSpeedLimit(999)",
            "greatestLength(447)=1 greatestLength(20042)=998 greatestLength(20043)=999 greatestLength(99999)=999");
    }

    /** "NONE if there is none" */
    private static void greatestLengthMayNotExist() {
        Calls.play("greatestLength(1413)=NONE greatestLength(1414)=1 setSpeedLimit(1) greatestLength(9999)=NONE",
            "greatestLength(10000)=1 setAcceleration(1) greatestLength(14141)=NONE greatestLength(14142)=1",
            "setSpeedLimit(999) greatestLength(14141)=NONE setAcceleration(999) greatestLength(446)=NONE",
            "greatestLength(447)=1");
    }

    /** "takes at most so many ticks": 900 steps take 100000 ticks, one more than may be asked for. */
    private static void greatestLengthOfExactlyTheTicks() {
        Calls.play("setSpeedLimit(100) moveTicks(900)=100000 moveTicks(899)=99900 greatestLength(99999)=899",
            "greatestLength(99900)=899 greatestLength(99899)=898 setSpeedLimit(1) greatestLength(99999)=9",
            "greatestLength(90000)=9 greatestLength(89999)=8");
    }

    /** moveTicks, leastAcceleration and greatestLength are about a move of its own. */
    private static void predictionsDoNotHeedAMoveInProgress() {
        Calls.play("addMove(99,0) 5*step() moveTicks(3)=3414 greatestLength(5000)=6 leastAcceleration(5,5000)=80",
            "stop()=4",
            "moveTicks(3)=3414 greatestLength(5000)=6 leastAcceleration(5,5000)=80 rampIndex()=4 step()=379");
    }
}
