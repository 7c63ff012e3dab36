/** The edges named under SCRIPTS and in promises 28 and 29, a test for each sentence. */
public final class EdgeScriptTest {
    public static void main(String[] args) {
        scriptHas1To4Commands();
        scriptHasAtMost4TimesNDigits();
        scriptIs0OrMore();
        firstCommandIsTheHighestGroup();
        commandsRunOnACopyOneAfterAnother();
        stepsAre001To999();
        stepsAsManyAsThereAre();
        stepsFailIfTheQueueIsEmptyAtFirst();
        speedLimitIs001To999();
        stopFailsWhereStopDoes();
        stopIs3000Alone();
        positionOfXIsExactly();
        positionOfXBelow0AndAbove999();
        indexIsExactly();
        indexFailsIfNoMoveIsInProgress();
        itemsAreExactly();
        itemsAreOneDigit();
        anyOtherGroupFails();
        resultIsTheFirstThatFails();
        scriptsChangeNothing();
        randomStepsAre1To500();
        randomStepsEndWithTheQueue();
        seedIsAnyLong();
        longOverflow();
        speedLimitChangesIfVIsDivisibleBy4();
        speedLimitIsFrom1To999AtRandom();
        vIsNeverNegative();
        randomSpeedsChangeNothing();
        Check.end();
    }

    private static String script(int n, long script, String want) {
        return "runScript(" + n + "," + script + ")=" + want + " ";
    }

    /** A script of one command. */
    private static String one(int command, boolean succeeds) {
        return script(1, command, succeeds ? "NONE" : "0");
    }

    /** "A script has 1 to 4 commands ... BAD_VALUE if n is out of range" */
    private static void scriptHas1To4Commands() {
        Calls.play(script(0, 0, "BAD_VALUE") + script(1, 4000, "NONE") + script(2, 40004000L, "NONE")
            + script(3, 400040004000L, "NONE") + script(4, 4000400040004000L, "NONE") + script(5, 4000, "BAD_VALUE")
            + script(-1, 4000, "BAD_VALUE") + script(0, 4000, "BAD_VALUE") + script(5, 4000400040004000L, "BAD_VALUE")
            + "runScript(MIN,4000)=BAD_VALUE runScript(MAX,4000)=BAD_VALUE runScript(0,-1)=BAD_VALUE");
    }

    /** "a number of at most 4 * n digits ... BAD_VALUE if script ... has more than 4 * n digits" */
    private static void scriptHasAtMost4TimesNDigits() {
        Calls.play(script(1, 9999, "0") + script(1, 10000, "BAD_VALUE") + script(2, 99999999L, "0")
            + script(2, 100000000L, "BAD_VALUE") + script(3, 999999999999L, "0")
            + script(3, 1000000000000L, "BAD_VALUE") + script(4, 9999999999999999L, "0")
            + script(4, 10000000000000000L, "BAD_VALUE")
            + "runScript(4,MAX)=BAD_VALUE runScript(1,MAX)=BAD_VALUE " + script(1, 40004000L, "BAD_VALUE")
            + script(3, 4000400040004000L, "BAD_VALUE") + script(1, 4294971296L, "BAD_VALUE"));
    }

    /** "(0 or more) ... BAD_VALUE ... if script is negative" */
    private static void scriptIs0OrMore() {
        Calls.play(script(1, 0, "0") + script(4, 0, "0") + script(1, -1, "BAD_VALUE") + script(4, -1, "BAD_VALUE")
            + script(1, -4000, "BAD_VALUE") + "runScript(1,MIN)=BAD_VALUE runScript(4,MIN)=BAD_VALUE");
    }

    /** "the first command is the highest group of the number": groups of 0 before the others, too */
    private static void firstCommandIsTheHighestGroup() {
        Calls.play(script(2, 40006001L, "1") + script(2, 60014000L, "0") + script(2, 4000, "0")
            + script(3, 40004000L, "0") + script(4, 4000400040006001L, "3") + script(4, 4000400060014000L, "2")
            + script(4, 4000600140004000L, "1")
            + script(4, 6001400040004000L, "0") + script(3, 400040000000L, "2"));
    }

    /** "The commands run on a copy of the state, one after another." */
    private static void commandsRunOnACopyOneAfterAnother() {
        Calls.play("addMove(5,0) " + script(4, 1001100110015002L, "NONE") + script(4, 1001100110014003L, "NONE")
            + script(4, 4000100140014002L, "3") + "position(0)=100000 " + script(3, 201010055001L, "2")
            + script(3, 201010045001L, "NONE") + "topIndex()=195 clock()=0");
    }

    /** "1 x y z: makes xyz steps, 001 to 999" */
    private static void stepsAre001To999() {
        Calls.play("setSpeedLimit(999) addMove(999,1) addMove(9,0)",
            "" + one(1000, false) + one(1001, true) + one(1999, true)
            + script(2, 10014001L, "NONE") + script(2, 19984998L, "NONE") + script(2, 19994999L, "NONE")
            + script(2, 19986002L, "NONE") + script(2, 19996001L, "NONE") + script(3, 199910015000L, "NONE")
            + script(2, 10004000L, "0"));
    }

    /** "or as many as there are until the queue is empty" */
    private static void stepsAsManyAsThereAre() {
        Calls.play("addMove(3,0) addWait(5) " + script(2, 10034003L, "NONE") + script(2, 10036001L, "NONE")
            + script(2, 10046000L, "NONE") + script(2, 10056000L, "NONE") + script(3, 199960004003L, "NONE"));
        Calls.play("8*addWait(1) " + script(2, 10076001L, "NONE") + script(2, 10086000L, "NONE")
            + script(2, 10096000L, "NONE") + script(2, 19996000L, "NONE"));
    }

    /** "fails if the queue is empty at first" */
    private static void stepsFailIfTheQueueIsEmptyAtFirst() {
        Calls.play(one(1001, false) + one(1999, false) + "addWait(1) " + one(1001, true) + one(1999, true)
            + script(2, 10011001L, "1") + script(2, 19991999L, "1") + "step() " + one(1001, false));
    }

    /** "2 x y z: sets the speed limit to xyz, 001 to 999." */
    private static void speedLimitIs001To999() {
        Calls.play("addMove(99,0) 5*step() " + one(2000, false) + one(2001, true) + one(2999, true)
            + script(3, 200110015003L, "NONE") + script(3, 299910015005L, "NONE") + script(3, 200010015005L, "0")
            + script(4, 2010100110015002L, "NONE") + script(4, 2010100120011001L, "NONE") + "topIndex()=195");
    }

    /** "3 0 0 0: stops; fails where stop() returns an error." */
    private static void stopFailsWhereStopDoes() {
        Calls.play(one(3000, false) + "addWait(1) " + one(3000, false) + "addMove(9,0) " + script(2, 10013000L, "1")
            + script(2, 10023000L, "NONE") + script(3, 100230006000L, "NONE") + script(3, 100230003000L, "2")
            + script(3, 100330006001L, "NONE") + script(4, 1003300010016000L, "NONE")
            + script(4, 1003300010014003L, "NONE") + script(3, 101030003000L, "1")
            + "step() step() stop()=0 " + one(3000, false));
    }

    /** A group of 3 with other digits is no stop. */
    private static void stopIs3000Alone() {
        Calls.play("addMove(9,0) 2*step() " + one(3000, true) + one(3001, false) + one(3010, false) + one(3100, false)
            + one(3999, false));
    }

    /** "4 x y z: succeeds if the position of X is exactly xyz." */
    private static void positionOfXIsExactly() {
        Calls.play(one(4000, true) + one(4001, false) + one(4999, false) + "addMove(1,7) run(99999) " + one(4000, false)
            + one(4001, true) + one(4002, false) + "addMove(998,0) run(99999) " + one(4998, false) + one(4999, true)
            + one(4000, false) + one(4007, false));
    }

    /** No group tells a position that is negative or has more than three digits. */
    private static void positionOfXBelow0AndAbove999() {
        Calls.play("addMove(-1,0) step() " + one(4000, false) + one(4001, false) + one(4999, false) + "addMove(999,0)",
            "run(99999) addMove(2,0) run(99999) position(0)=101000",
            "" + one(4000, false) + one(4999, false) + one(4001, false)
            + one(4100, false));
    }

    /** "5 x y z: succeeds if the index of the step that was made last in the present move is exactly xyz" */
    private static void indexIsExactly() {
        Calls.play("addMove(8,0) step() " + one(5000, true) + one(5001, false) + "step() " + one(5000, false)
            + one(5001, true) + one(5002, false) + script(3, 100250035002L, "2") + "3*step() " + one(5003, true));
        Calls.play("setAcceleration(1) setSpeedLimit(999) addMove(999,0) " + script(3, 149954995499L, "1")
            + script(2, 15005499L, "NONE") + script(2, 14995498L, "NONE") + script(2, 15005500L, "1"));
    }

    /** "fails if no move is in progress": before the first step, behind the last, before a wait, after a stop */
    private static void indexFailsIfNoMoveIsInProgress() {
        Calls.play(one(5000, false) + "addMove(2,0) " + one(5000, false) + script(2, 10015000L, "NONE")
            + script(2, 10025000L, "1") + "addWait(1) 2*step() " + one(5000, false) + "step() " + one(5000, false)
            + "addMove(9,0) step() " + one(5000, true) + script(2, 30005000L, "1") + "stop()=0 " + one(5000, false));
    }

    /** "6 0 0 n: succeeds if the queue has exactly n items." */
    private static void itemsAreExactly() {
        StringBuilder calls = new StringBuilder();
        for (int items = 0; items <= 8; items++) {
            for (int n = 0; n <= 9; n++) {
                calls.append(one(6000 + n, n == items));
            }
            calls.append("addWait(1) ");
        }
        Calls.play(calls.toString());
    }

    /** The middle digits are 0. */
    private static void itemsAreOneDigit() {
        Calls.play(one(6010, false) + one(6100, false) + one(6999, false) + "8*addWait(1) " + one(6008, true)
            + one(6018, false) + one(6108, false) + one(6098, false) + one(6009, false));
    }

    /** "Any other group fails." */
    private static void anyOtherGroupFails() {
        StringBuilder calls = new StringBuilder("addMove(9,0) 2*step() ");
        int[] groups = {0, 1, 500, 999, 1000, 2000, 3001, 6011, 7000, 7001, 7999, 8000, 8002, 9000, 9001, 9999};
        for (int group : groups) {
            calls.append(one(group, false)).append(script(2, 40020000L + group, "1"));
        }
        Calls.play(calls.toString());
    }

    /** "the index, from 0, of the first command that fails, or NONE if all succeed" */
    private static void resultIsTheFirstThatFails() {
        Calls.play("addMove(1,0) " + script(4, 7000700070007000L, "0") + script(4, 4000700070007000L, "1")
            + script(4, 4000400070007000L, "2") + script(4, 4000400040007000L, "3")
            + script(4, 4000400040004000L, "NONE") + script(4, 4000400140004001L, "1")
            + script(1, 7000, "0") + script(2, 40007000L, "1"));
    }

    /** "Runs a script on a copy of the state.": successful or not */
    private static void scriptsChangeNothing() {
        Calls.play("addMove(9,-9) addWait(4) 2*step() " + script(4, 2001199960003000L, "3") + script(1, 3000, "NONE")
            + "position(0)=100002 position(1)=99998 clock()=2000 rampIndex()=1 queueLength()=2 itemAt(0)=7",
            "topIndex()=195",
            "undo()=3 undo()=2 undo()=1 undo()=0 undo()=NOT_POSSIBLE setSpeedLimit(1)=200");
    }

    /** randomSpeeds: "number of steps, 1 to 500 ... BAD_VALUE if m is out of range" */
    private static void randomStepsAre1To500() {
        Calls.play("randomSpeeds(7,0)=BAD_VALUE randomSpeeds(7,1)=0 randomSpeeds(7,500)=0",
            "randomSpeeds(7,501)=BAD_VALUE",
            "randomSpeeds(7,-1)=BAD_VALUE randomSpeeds(7,MIN)=BAD_VALUE randomSpeeds(7,MAX)=BAD_VALUE addMove(999,0)",
            "randomSpeeds(0,0)=BAD_VALUE randomSpeeds(0,1)=1414 randomSpeeds(0,2)=2000 randomSpeeds(0,499)=51843",
            "randomSpeeds(0,500)=51884 randomSpeeds(0,501)=BAD_VALUE");
    }

    /** "until m steps are made or the queue is empty" */
    private static void randomStepsEndWithTheQueue() {
        Calls.play("randomSpeeds(5,1)=0 8*addWait(9) randomSpeeds(5,1)=9 randomSpeeds(5,7)=63 randomSpeeds(5,8)=72",
            "randomSpeeds(5,9)=72 randomSpeeds(5,500)=72");
        Calls.play("addMove(300,0) randomSpeeds(1,299)=36173 randomSpeeds(1,300)=37587 randomSpeeds(1,301)=37587",
            "randomSpeeds(1,500)=37587");
    }

    /** "seed: any long" */
    private static void seedIsAnyLong() {
        Calls.play("addMove(300,0) randomSpeeds(0,500)=46815 randomSpeeds(-1,500)=51011 randomSpeeds(MAX,500)=39703",
            "randomSpeeds(MIN,500)=37945 randomSpeeds(123456789,500)=43803",
            "randomSpeeds(-987654321987654321,500)=94049");
    }

    /** "(with long overflow)": the ticks were computed apart from Java, with whole numbers modulo 2 to the power 64. */
    private static void longOverflow() {
        String calls = "addMove(999,0) ";
        Calls.play(calls + "randomSpeeds(0,3)=2449 randomSpeeds(0,10)=4472 randomSpeeds(0,100)=19823",
            "randomSpeeds(1,100)=15213 randomSpeeds(1,500)=41253 randomSpeeds(-1,100)=16405",
            "randomSpeeds(-1,500)=119988");
        Calls.play(calls + "randomSpeeds(MAX,100)=17096 randomSpeeds(MAX,499)=41228 randomSpeeds(MAX,500)=41441",
            "randomSpeeds(MIN,100)=14797 randomSpeeds(MIN,499)=40909 randomSpeeds(MIN,500)=40948",
            "randomSpeeds(123456789,500)=48471 randomSpeeds(-987654321987654321,500)=100150");
    }

    /** "if v % 4 is 0, the speed limit",
            "becomes": seeds whose first v are 0 to 4, with the lowest bits of x all 0 or 1 */
    private static void speedLimitChangesIfVIsDivisibleBy4() {
        Calls.play("addMove(9,0) randomSpeeds(-7379792620528906219,1)=10000 randomSpeeds(4483922187169113968,1)=10000",
            "randomSpeeds(-84997745826115563,1)=1414 randomSpeeds(-6668027011837646992,1)=1414",
            "randomSpeeds(7209797128876675093,1)=1414 randomSpeeds(626767862865143664,1)=1414",
            "randomSpeeds(-3942152070130085867,1)=1414 randomSpeeds(7921562737567934320,1)=1414",
            "randomSpeeds(3352642804572704789,1)=5000 randomSpeeds(-3230386461438826640,1)=5000");
    }

    /** "v / 4 % 999 + 1": seeds whose first v are 4 * 998, 4 * 999, 4 * 999 + 1 and 4 * 1000 */
    private static void speedLimitIsFrom1To999AtRandom() {
        // With the speed limit 999 the index becomes 117, R(117) = 21; with 500 it stays 116, and R(116) = 20.
        Calls.play("setAcceleration(999) setSpeedLimit(500) addMove(999,0) run(9000) rampIndex()=116",
            "randomSpeeds(4479198879338942485,1)=21 randomSpeeds(-2103830386672588944,1)=21",
            "randomSpeeds(-3235109769268998123,1)=10000 randomSpeeds(8628605038429022064,1)=10000",
            "randomSpeeds(4059685105433792533,1)=20 randomSpeeds(-2523344160577738896,1)=20",
            "randomSpeeds(7497325655832612885,1)=5000 randomSpeeds(914296389821081456,1)=5000");
    }

    /** "(int) (x >>> 33)": the greatest v, and x that are negative */
    private static void vIsNeverNegative() {
        // v is 2147483647, 2147483644 (speed limit 320), 1073741824 (161) and 1073741820 (160).
        Calls.play("setAcceleration(999) setSpeedLimit(999) addMove(999,0) run(9000) rampIndex()=357",
            "randomSpeeds(3772156578477854741,1)=11 randomSpeeds(-2810872687533676688,1)=11",
            "randomSpeeds(334516028079034389,1)=32 randomSpeeds(-6248513237932497040,1)=32",
            "randomSpeeds(1843579416325869589,1)=63 randomSpeeds(-4739449849685661840,1)=63",
            "randomSpeeds(-8888856008775741419,1)=63 randomSpeeds(2974858798922278768,1)=63");
    }

    /** "Makes steps on a copy of the state" */
    private static void randomSpeedsChangeNothing() {
        Calls.play("addMove(9,-9) addWait(4) 2*step() randomSpeeds(-7379792620528906219,500) position(0)=100002",
            "position(1)=99998 clock()=2000 rampIndex()=1 queueLength()=2 itemAt(0)=7 topIndex()=195",
            "undo()=3 undo()=2 undo()=1 undo()=0 undo()=NOT_POSSIBLE setSpeedLimit(1)=200");
    }
}
