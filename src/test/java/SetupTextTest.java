/** Promises 2 to 5: append, clearText, errorPosition, load. */
public final class SetupTextTest {
    private static final String EIGHT_MOVES = "m+001-002".repeat(8);
    private static final String EIGHT_WAITS = "w0001".repeat(8);

    public static void main(String[] args) {
        promise2Append();
        promise3ClearText();
        promise4ErrorPositionOfHead();
        promise4ErrorPositionOfItems();
        promise4ErrorPositionChangesNothing();
        promise5Load();
        promise5LoadForgets();
        promise5LoadOfBadText();
        Check.end();
    }

    private static void promise2Append() {
        StepperPlanner p = new StepperPlanner();
        Check.due("append(-1)", p.append(-1), StepperPlanner.BAD_VALUE);
        Check.due("append(256)", p.append(256), StepperPlanner.BAD_VALUE);
        Check.due("append(least)", p.append(Integer.MIN_VALUE), StepperPlanner.BAD_VALUE);
        Check.due("append(greatest)", p.append(Integer.MAX_VALUE), StepperPlanner.BAD_VALUE);
        Check.due("append(0)", p.append(0), 1);
        Check.due("append(255)", p.append(255), 2);
        for (int length = 3; length <= 80; length++) {
            Check.due("append to length " + length, p.append('x'), length);
        }
        Check.due("append to a full text", p.append('x'), StepperPlanner.FULL);
        Check.due("bad append to a full text", p.append(256), StepperPlanner.BAD_VALUE);
        Check.due("bad append to a full text", p.append(-1), StepperPlanner.BAD_VALUE);
        Check.due("length of the full text", p.clearText(), 80);
    }

    private static void promise3ClearText() {
        StepperPlanner p = new StepperPlanner();
        Check.due("clearText() at first", p.clearText(), 0);
        Check.type(p, "a100");
        Check.due("clearText()", p.clearText(), 4);
        Check.due("clearText() again", p.clearText(), 0);
        Check.type(p, "a200v300");
        Check.due("errorPosition() after clearText()", p.errorPosition(), StepperPlanner.NONE);
        Check.due("load() after clearText()", p.load(), 0);
        Check.due("acceleration after clearText()", p.setAcceleration(1), 200);
    }

    private static void dueError(String text, int want) {
        StepperPlanner p = new StepperPlanner();
        Check.type(p, text);
        Check.due("errorPosition() of " + text, p.errorPosition(), want);
        if (want != StepperPlanner.NONE) {
            Check.due("load() of " + text, p.load(), StepperPlanner.NOT_POSSIBLE);
        }
    }

    private static void promise4ErrorPositionOfHead() {
        dueError("", 0);
        dueError("b", 0);
        dueError("A001v001", 0);
        dueError(" a001v001", 0);
        dueError("v001a001", 0);
        dueError("a", 1);
        dueError("av", 1);
        dueError("a+01v001", 1);
        dueError("a0", 2);
        dueError("a00", 3);
        dueError("a00/v001", 3);
        dueError("a00:v001", 3);
        dueError("a000", 3);
        dueError("a000v001", 3);
        dueError("a001", 4);
        dueError("a0010", 4);
        dueError("a001a001", 4);
        dueError("a001v", 5);
        dueError("a001v00", 7);
        dueError("a001v000", 7);
        dueError("a001v000m+001+001", 7);
        dueError("a001v00\u00ff", 7);
        dueError("a001v001", StepperPlanner.NONE);
        dueError("a999v999", StepperPlanner.NONE);
        dueError("a100v100", StepperPlanner.NONE);
        dueError("a001v001 ", 8);
        dueError("a001v001\0", 8);
        dueError("a001v001x", 8);
        dueError("a001v001a001v001", 8);
    }

    private static void promise4ErrorPositionOfItems() {
        String head = "a123v456";
        dueError(head + "m", 9);
        dueError(head + "m0", 9);
        dueError(head + "m+", 10);
        dueError(head + "m+x", 10);
        dueError(head + "m+++", 10);
        dueError(head + "m+001", 13);
        dueError(head + "m+0010", 13);
        dueError(head + "m+000", 13);
        dueError(head + "m+000+00", 16);
        dueError(head + "m+000+000", 16);
        dueError(head + "m-000+000", 16);
        dueError(head + "m+000-000w0001", 16);
        dueError(head + "m-000-001", StepperPlanner.NONE);
        dueError(head + "m+000+999", StepperPlanner.NONE);
        dueError(head + "m-999-000", StepperPlanner.NONE);
        dueError(head + "m+100+000", StepperPlanner.NONE);
        dueError(head + "m+001+000m+000+000", 25);
        dueError(head + "w", 9);
        dueError(head + "w+001", 9);
        dueError(head + "w000", 12);
        dueError(head + "w0000", 12);
        dueError(head + "w0000w0001", 12);
        dueError(head + "w0001", StepperPlanner.NONE);
        dueError(head + "w9999", StepperPlanner.NONE);
        dueError(head + "w1000", StepperPlanner.NONE);
        dueError(head + "w00010", 13);
        dueError(head + "W0001", 8);
        dueError(head + "w0001w0000", 17);
        dueError(head + EIGHT_MOVES, StepperPlanner.NONE);
        dueError(head + EIGHT_WAITS, StepperPlanner.NONE);
        dueError(head + EIGHT_WAITS.substring(5) + EIGHT_MOVES.substring(63), StepperPlanner.NONE);
        dueError(head + EIGHT_WAITS + "w0001", 48);
        dueError(head + EIGHT_WAITS + "m", 48);
        dueError(head + EIGHT_WAITS + "x", 48);
        dueError(head + EIGHT_MOVES.substring(1), 8);
        dueError(head + EIGHT_MOVES.substring(0, 71), 79);
        dueError(head + EIGHT_MOVES.substring(0, 71) + "x", 79);
    }

    private static void promise4ErrorPositionChangesNothing() {
        StepperPlanner p = new StepperPlanner();
        p.addMove(4, -4);
        p.step();
        Check.type(p, "a001v002w0005");
        Check.due("errorPosition()", p.errorPosition(), StepperPlanner.NONE);
        Check.due("errorPosition() again", p.errorPosition(), StepperPlanner.NONE);
        Check.due("queueLength()", p.queueLength(), 1);
        Check.due("itemAt(0)", p.itemAt(0), 3);
        Check.due("position(1)", p.position(1), 99999);
        Check.due("clock()", p.clock(), 1414);
        Check.due("rampIndex()", p.rampIndex(), 0);
        Check.due("interval(0)", p.interval(0), 1414);
        Check.due("undo()", p.undo(), 1);
        Check.due("clearText()", p.clearText(), 13);
    }

    private static void promise5Load() {
        StepperPlanner p = Check.loaded("a050v010m+010-004w0100m-003+000w9999m+000-999", 5);
        Check.due("queueLength()", p.queueLength(), 5);
        Check.due("itemAt(0)", p.itemAt(0), 10);
        Check.due("itemAt(1)", p.itemAt(1), 10100);
        Check.due("itemAt(2)", p.itemAt(2), 3);
        Check.due("itemAt(3)", p.itemAt(3), 19999);
        Check.due("itemAt(4)", p.itemAt(4), 999);
        Check.due("itemAt(5)", p.itemAt(5), StepperPlanner.NO_SUCH_INDEX);
        Check.due("interval(0)", p.interval(0), 2000);
        Check.due("interval(999)", p.interval(999), 1000);
        // 2 * 2000 + 8 * 1000, 100, 5000, 9999, and three steps of the last move
        Check.due("run(31098)", p.run(31098), 17);
        Check.due("step()", p.step(), 1000);
        Check.due("position(0)", p.position(0), 100007);
        Check.due("position(1)", p.position(1), 99993);
        Check.due("setSpeedLimit(1)", p.setSpeedLimit(1), 10);
        Check.due("text is kept", p.clearText(), 45);
    }

    private static void promise5LoadForgets() {
        StepperPlanner p = new StepperPlanner();
        p.addMove(5, 5);
        p.addWait(7);
        p.step();
        p.step();
        p.save(0);
        p.save(1);
        p.addMove(-40, 30);
        p.run(2000);
        p.positionAfter(0, 500);
        Check.type(p, "a100v200");
        Check.due("load()", p.load(), 0);
        Check.due("queueLength()", p.queueLength(), 0);
        Check.due("rampIndex()", p.rampIndex(), StepperPlanner.NONE);
        Check.due("position(0)", p.position(0), 100000);
        Check.due("position(1)", p.position(1), 100000);
        Check.due("clock()", p.clock(), 0);
        Check.due("undo()", p.undo(), StepperPlanner.NOT_POSSIBLE);
        Check.due("restore(0)", p.restore(0), StepperPlanner.NOT_POSSIBLE);
        Check.due("restore(1)", p.restore(1), StepperPlanner.NOT_POSSIBLE);
        Check.due("setAcceleration(3)", p.setAcceleration(3), 100);
        Check.due("undo()", p.undo(), 0);
        Check.due("load() again", p.load(), 0);
        Check.due("length of the text", p.clearText(), 8);
    }

    private static void promise5LoadOfBadText() {
        StepperPlanner p = new StepperPlanner();
        p.addMove(5, 3);
        p.step();
        p.save(1);
        Check.due("load() of no text", p.load(), StepperPlanner.NOT_POSSIBLE);
        Check.type(p, "a007v008w0009w0000");
        Check.due("load() of a bad text", p.load(), StepperPlanner.NOT_POSSIBLE);
        Check.due("queueLength()", p.queueLength(), 1);
        Check.due("rampIndex()", p.rampIndex(), 0);
        Check.due("clock()", p.clock(), 1414);
        Check.due("interval(0)", p.interval(0), 1414);
        Check.due("restore(1)", p.restore(1), 1);
        Check.due("clearText()", p.clearText(), 18);
        Check.due("setSpeedLimit(9)", p.setSpeedLimit(9), 200);
        Check.due("undo()", p.undo(), 0);
    }
}
