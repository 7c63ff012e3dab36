/** The edges that the document names under SETUP TEXT and in promises 2 to 5, a test for each sentence. */
public final class EdgeTextTest {
    private static final String HEAD = "a100v200";
    /** The longest setup: 80 characters. */
    private static final String LONGEST = HEAD + "m+001-002".repeat(8);
    private static final String DIGIT = "0123456789";
    private static final String NO_ZERO = "123456789";

    public static void main(String[] args) {
        characterIsFrom0To255();
        textHasAtMost80Characters();
        clearTextAnswersThePreviousLength();
        eachCharacterAtEachPlace();
        lastDigitThatMustNotBe0();
        lastDigitOfTheSecondDistance();
        distance0MayHaveEitherSign();
        textThatEndsTooSoon();
        setupHas0To8Items();
        ninthItemIsNotAllowed();
        firstOfSeveralFaults();
        firstFaultBeforeTheEndOfTheText();
        setupHasNoSeparators();
        numbersOfTheSetup();
        loadOfATextThatIsNoSetup();
        loadReplacesAndSetsTo0();
        loadAfterPredictions();
        loadInAMove();
        loadOfNoItemsAndOfEight();
        loadForgetsAndEmpties();
        loadKeepsTheText();
        Check.end();
    }

    /** append: "character code, 0 to 255 ... BAD_VALUE if c is out of range" */
    private static void characterIsFrom0To255() {
        Calls.play("append(-1)=BAD_VALUE append(256)=BAD_VALUE append(MIN)=BAD_VALUE append(MAX)=BAD_VALUE",
            "append(0)=1 append(255)=2 append(1)=3 append(254)=4 append(256)=BAD_VALUE clearText()=4");
        // 353 is 97, the letter a, plus 256.
        Calls.play("append(353)=BAD_VALUE append(97)=1 append(-159)=BAD_VALUE errorPosition()=1");
    }

    /** "a text buffer of at most 80 characters": the empty one, the one with one free place, the full one */
    private static void textHasAtMost80Characters() {
        Calls.play("clearText()=0 append(97)=1 78*append(48) append(65)=80 append(66)=FULL append(67)=FULL",
            "append(0)=FULL append(255)=FULL clearText()=80 append(97)=1 errorPosition()=1");
        Calls.play("type(" + LONGEST + ") append(119)=FULL errorPosition()=NONE load()=8 append(119)=FULL",
            "clearText()=80");
    }

    /** clearText: "Empties the text buffer. Returns the previous length of the text." */
    private static void clearTextAnswersThePreviousLength() {
        Calls.play("clearText()=0 clearText()=0 append(97)=1 clearText()=1 clearText()=0 errorPosition()=0",
            "80*append(48) clearText()=80 clearText()=0 errorPosition()=0 append(98)=1 errorPosition()=0");
        // What stood behind a shorter new text is gone.
        Calls.play("type(" + HEAD + "w0001) clearText()=13 type(" + HEAD + ") errorPosition()=NONE load()=0");
        Calls.play("type(" + HEAD + "w0001) clearText()=13 type(" + HEAD + "w) errorPosition()=9 load()=NOT_POSSIBLE");
    }

    /** "the index of the first character that these rules do not allow at its place": all 256 at each place */
    private static void eachCharacterAtEachPlace() {
        String text = HEAD + "m+100-200" + "w1000";
        String[] allowed = {"a", DIGIT, DIGIT, DIGIT, "v", DIGIT, DIGIT, DIGIT, "mw", "+-", DIGIT, DIGIT, DIGIT, "+-",
            DIGIT, DIGIT, DIGIT, "mw", DIGIT, DIGIT, DIGIT, DIGIT, "mw"};
        for (int place = 0; place < allowed.length; place++) {
            eachCharacter(text.substring(0, place), allowed[place], place == 7 || place == 16 || place == 21);
        }
        eachCharacter("a00", NO_ZERO, false);
        eachCharacter("a100v00", NO_ZERO, true);
        eachCharacter(HEAD + "w000", NO_ZERO, true);
        eachCharacter(HEAD + "m+000-00", NO_ZERO, true);
        eachCharacter(HEAD + "m-000+00", NO_ZERO, true);
        eachCharacter(LONGEST.substring(0, 79), DIGIT, true);
        eachCharacter(HEAD + "w0001".repeat(7), "mw", false);
        eachCharacter(HEAD + "w0001".repeat(8), "", false);
    }

    /** Appends each character to a beginning; one that is not allowed is at the error position. */
    private static void eachCharacter(String beginning, String allowed, boolean endsSetup) {
        int length = beginning.length() + 1;
        for (int c = 0; c <= 255; c++) {
            StepperPlanner p = new StepperPlanner();
            Check.type(p, beginning);
            Check.due("append(" + c + ") after " + beginning, p.append(c), length);
            boolean good = allowed.indexOf((char) c) >= 0;
            int want = !good ? length - 1 : endsSetup ? StepperPlanner.NONE : length;
            Check.due("errorPosition() of " + beginning + " and " + c, p.errorPosition(), want);
            Check.holds("load() of " + beginning + " and " + c, p.load() >= 0 == (good && endsSetup));
        }
    }

    /** "for a number that must not be 0, its last digit" */
    private static void lastDigitThatMustNotBe0() {
        Calls.play("type(a000v000) errorPosition()=3 clearText() type(a001v000) errorPosition()=7 clearText()",
            "type(a000) errorPosition()=3 clearText() type(a001) errorPosition()=4 clearText()",
            "type(" + HEAD + "w0000) errorPosition()=12 load()=NOT_POSSIBLE clearText()",
            "type(" + HEAD + "w0001w0000w0000) errorPosition()=17 load()=NOT_POSSIBLE clearText()",
            "type(" + HEAD + "w0001) errorPosition()=NONE load()=1 itemAt(0)=10001 clearText()",
            "type(a001v001) errorPosition()=NONE load()=0 interval(0)=14142 interval(1)=10000");
    }

    /** "for a move of no distance, the last digit of its second distance" */
    private static void lastDigitOfTheSecondDistance() {
        for (String signs : new String[] {"++", "+-", "-+", "--"}) {
            String first = HEAD + "m" + signs.charAt(0);
            char second = signs.charAt(1);
            Calls.play("type(" + first + "000" + second + "000) errorPosition()=16 load()=NOT_POSSIBLE clearText()",
                "type(" + first + "000" + second + "000w0001) errorPosition()=16 clearText()",
                "type(" + first + "000" + second + "00) errorPosition()=16 clearText()",
                "type(" + first + "000" + second + "001) errorPosition()=NONE load()=1 itemAt(0)=1 clearText()",
                "type(" + first + "001" + second + "000) errorPosition()=NONE load()=1 itemAt(0)=1 clearText()",
                "type(" + first + "000" + second + "100) errorPosition()=NONE load()=1 itemAt(0)=100");
        }
        Calls.play("type(" + HEAD + "m+000+001m+000+000) errorPosition()=25 load()=NOT_POSSIBLE");
    }

    /** "(The distance 0 may have either sign.)" */
    private static void distance0MayHaveEitherSign() {
        Calls.play("type(" + HEAD + "m-000-002m+000+003m-004-000m+005+000) errorPosition()=NONE load()=4",
            "2*step() position(0)=100000 position(1)=99998 3*step() position(0)=100000 position(1)=100001",
            "4*step() position(0)=99996 position(1)=100001 5*step() position(0)=100001 position(1)=100001");
    }

    /** "if the text ends too soon, the error position is the length of the text": each beginning of a setup */
    private static void textThatEndsTooSoon() {
        String text = HEAD + "m-999+000" + "w9999" + "m+010-020".repeat(5) + "w0001";
        for (int length = 0; length <= text.length(); length++) {
            boolean complete = length == 8 || length == 17 || length >= 22 && (length - 22) % 9 == 0
                || length == text.length();
            int items = length == 8 ? 0 : length == 17 ? 1 : length == text.length() ? 8 : 2 + (length - 22) / 9;
            StepperPlanner p = new StepperPlanner();
            Check.type(p, text.substring(0, length));
            int error = complete ? StepperPlanner.NONE : length;
            Check.due("errorPosition() of length " + length, p.errorPosition(), error);
            Check.due("load() of length " + length, p.load(), complete ? items : StepperPlanner.NOT_POSSIBLE);
        }
    }

    /** "and then 0 to 8 items" */
    private static void setupHas0To8Items() {
        for (int items = 0; items <= 8; items++) {
            Calls.play("type(" + HEAD + "w0003".repeat(items) + ") errorPosition()=NONE load()=" + items,
                "queueLength()=" + items + " clearText() type(" + HEAD + "m-003+004".repeat(items) + ")",
                "errorPosition()=NONE load()=" + items + " itemAt(" + items + ")=NO_SUCH_INDEX");
        }
    }

    /** "A ninth item is not allowed." */
    private static void ninthItemIsNotAllowed() {
        String eight = HEAD + "w0001".repeat(8);
        for (String ninth : new String[] {"w", "m", "w0001", "w0000", "m+001+001", "m+000+000", "x", "0"}) {
            Calls.play("type(" + eight + ninth + ") errorPosition()=48 load()=NOT_POSSIBLE");
        }
        Calls.play("type(" + HEAD + "m+001+001".repeat(7) + "w0001) errorPosition()=NONE append(119)=77",
            "errorPosition()=76 load()=NOT_POSSIBLE");
        Calls.play("type(" + HEAD + "m+001+001" + "w0001".repeat(7) + "m) errorPosition()=52");
    }

    /** "The text is read from left to right. The error position is the index of the first character" */
    private static void firstOfSeveralFaults() {
        Calls.play("type(b000v000) errorPosition()=0 clearText() type(a0x0v000) errorPosition()=2 clearText()",
            "type(a000x) errorPosition()=3 clearText() type(a001w000) errorPosition()=4 clearText()",
            "type(a001v000w0000) errorPosition()=7 clearText() type(a001v001w0000m+000+000) errorPosition()=12");
        Calls.play("type(" + HEAD + "m000+000) errorPosition()=9 clearText() type(" + HEAD + "m+000000)",
            "errorPosition()=13 clearText() type(" + HEAD + "m+00x+000) errorPosition()=12 clearText()",
            "type(" + HEAD + "m+000*000) errorPosition()=13 clearText() type(" + HEAD + "m+000+0x0)",
            "errorPosition()=15");
    }

    /** A character that is not allowed counts, not that the text also ends too soon behind it. */
    private static void firstFaultBeforeTheEndOfTheText() {
        Calls.play("type(x) errorPosition()=0 clearText() type(aa) errorPosition()=1 clearText()",
            "type(a100w) errorPosition()=4 clearText() type(" + HEAD + "wx) errorPosition()=9 clearText()",
            "type(" + HEAD + "m+0-) errorPosition()=11 clearText() type(" + HEAD + "m-) errorPosition()=10");
    }

    /** "without separators": what might stand between the parts, and letters of the other case */
    private static void setupHasNoSeparators() {
        for (int separator : new int[] {0, 9, 10, 32, 44, 59, 255}) {
            String append = "append(" + separator + ")";
            Calls.play(append + " type(" + HEAD + ") errorPosition()=0");
            Calls.play("type(a100) " + append + " type(v200) errorPosition()=4");
            Calls.play("type(" + HEAD + ") " + append + " errorPosition()=8 load()=NOT_POSSIBLE");
            Calls.play("type(" + HEAD + "w0001) " + append + " type(w0001) errorPosition()=13");
            Calls.play("type(" + HEAD + "m+001) " + append + " type(+001) errorPosition()=13");
        }
        Calls.play("type(A100v200) errorPosition()=0 clearText() type(a100V200) errorPosition()=4 clearText()",
            "type(" + HEAD + "M+001+001) errorPosition()=8 clearText() type(" + HEAD + "W0001) errorPosition()=8");
    }

    /** "three digits, 001 to 999", "four digits, 0001 to 9999", "a sign (+ or -) and three digits" */
    private static void numbersOfTheSetup() {
        Calls.play("type(a001v999m+999-999m-999+001w0001w9999) load()=4 itemAt(0)=999 itemAt(1)=999 itemAt(2)=10001",
            "itemAt(3)=19999 topIndex()=999 interval(0)=14142 setAcceleration(7)=1 setSpeedLimit(8)=999");
        Calls.play("type(a999v001w1000m+010+100) load()=2 itemAt(0)=11000 itemAt(1)=100 interval(0)=10000",
            "setAcceleration(7)=999 setSpeedLimit(8)=1");
        Calls.play("type(a0999v200) errorPosition()=4 clearText() type(a10v200) errorPosition()=3 clearText()",
            "type(a100v1000) errorPosition()=8 clearText() type(a-01v200) errorPosition()=1 clearText()",
            "type(" + HEAD + "w+001) errorPosition()=9 clearText() type(" + HEAD + "w00001) errorPosition()=12");
    }

    /** load: "NOT_POSSIBLE if the text is not a complete setup": of the empty, of an unfinished, of a full text */
    private static void loadOfATextThatIsNoSetup() {
        Calls.play("load()=NOT_POSSIBLE type(a100v20) load()=NOT_POSSIBLE append(48)=8 load()=0 append(119)=9",
            "load()=NOT_POSSIBLE clearText()=9 load()=NOT_POSSIBLE");
        Calls.play("type(" + LONGEST.substring(0, 79) + "x) append(48)=FULL errorPosition()=79 load()=NOT_POSSIBLE");
        Calls.play("80*append(97) errorPosition()=1 load()=NOT_POSSIBLE");
    }

    /** "Replaces the acceleration, the speed limit and the queue ..., and sets the positions and the clock to 0." */
    private static void loadReplacesAndSetsTo0() {
        Calls.play("setAcceleration(7) setSpeedLimit(300) addMove(2,-2) run(99999)=2 addWait(9) addWait(8) step()=9",
            "position(0)=100002 position(1)=99998 type(a200v010m+000-001) load()=1 position(0)=100000",
            "position(1)=100000 clock()=0 queueLength()=1 itemAt(0)=1 itemAt(1)=NO_SUCH_INDEX interval(0)=1000",
            "setAcceleration(9)=200 setSpeedLimit(9)=10 step()=4714 position(1)=99999");
    }

    /** The same after predictions, which have seen other positions, a later clock and other items. */
    private static void loadAfterPredictions() {
        Calls.play("addMove(9,-9) addWait(8) addMove(2,1) 3*step() ticksLeft()=6377 positionAfter(1,9)=99997",
            "runScript(2,20011005)=NONE randomSpeeds(5,7) type(a200v010m+002-001) load()=1 position(0)=100000",
            "position(1)=100000 clock()=0 queueLength()=1 rampIndex()=NONE itemAt(0)=2 itemAt(1)=NO_SUCH_INDEX",
            "ticksLeft()=2000 step()=1000 position(0)=100001 position(1)=99999 clock()=1000");
        Calls.play("addMove(9,-9) 3*step() positionAfter(0,1000)=100005 errorPosition()=0 type(a200v010) load()=0",
            "position(0)=100000 position(1)=100000 clock()=0 queueLength()=0 rampIndex()=NONE stop()=NOT_POSSIBLE");
    }

    /** "No move is in progress then." */
    private static void loadInAMove() {
        Calls.play("addMove(50,25) 5*step() rampIndex()=4 type(a100v200m+004+002) load()=1 rampIndex()=NONE",
            "stop()=NOT_POSSIBLE itemAt(0)=4 setAcceleration(100)=100 removeItem(0)=0 undo()=1 step()=1414",
            "rampIndex()=0 position(0)=100001 position(1)=100001 itemAt(0)=3");
        Calls.play("addMove(50,25) 5*step() type(a100v200) load()=0 rampIndex()=NONE step()=NOT_POSSIBLE",
            "addMove(2,0)=1 rampIndex()=NONE step()=1414 rampIndex()=0");
    }

    /** "Returns the number of items in the queue" */
    private static void loadOfNoItemsAndOfEight() {
        Calls.play("addMove(1,1) type(" + HEAD + ") load()=0 queueLength()=0 itemAt(0)=NO_SUCH_INDEX",
            "step()=NOT_POSSIBLE ticksLeft()=0 addWait(1)=1");
        Calls.play("type(" + LONGEST + ") load()=8 queueLength()=8 itemAt(7)=2 itemAt(8)=NO_SUCH_INDEX addWait(1)=FULL",
            "addMove(1,1)=FULL removeItem(7)=7 addWait(1)=8 ticksLeft()=19797");
    }

    /** "Forgets all remembered states and empties both save slots." */
    private static void loadForgetsAndEmpties() {
        Calls.play("20*setSpeedLimit(9) save(0)=0 save(1)=0 type(" + HEAD + "w0001) load()=1 undo()=NOT_POSSIBLE",
            "restore(0)=NOT_POSSIBLE restore(1)=NOT_POSSIBLE step()=1 undo()=0 undo()=NOT_POSSIBLE queueLength()=1",
            "save(1)=1 restore(0)=NOT_POSSIBLE restore(1)=1");
        // A load that is refused forgets and empties nothing.
        Calls.play("setSpeedLimit(9) save(1)=0 setSpeedLimit(8) type(" + HEAD + "w) load()=NOT_POSSIBLE undo()=1",
            "undo()=0 restore(1)=0 setSpeedLimit(7)=9");
    }

    /** "Keeps the text." */
    private static void loadKeepsTheText() {
        Calls.play("type(" + HEAD + "w0007) load()=1 errorPosition()=NONE load()=1 step()=7 load()=1 itemAt(0)=10007",
            "clock()=0 append(119)=14 load()=NOT_POSSIBLE clearText()=14");
    }
}
