/** Promises 28 and 29: runScript and randomSpeeds. */
public final class ScriptsTest {
    private static final int BAD_VALUE = StepperPlanner.BAD_VALUE;
    private static final int NONE = StepperPlanner.NONE;

    public static void main(String[] args) {
        promise28Arguments();
        promise28Steps();
        promise28SpeedLimit();
        promise28Stop();
        promise28Comparisons();
        promise28OtherGroups();
        promise28CommandsFollowOneAnother();
        promise29Arguments();
        promise29RandomSpeeds();
        promise29ByHand();
        scriptsChangeNothing();
        Check.end();
    }

    private static void dueScript(StepperPlanner p, int n, long script, int want) {
        Check.due("runScript(" + n + ", " + script + ")", p.runScript(n, script), want);
    }

    private static void promise28Arguments() {
        StepperPlanner p = new StepperPlanner();
        dueScript(p, 0, 0, BAD_VALUE);
        dueScript(p, -1, 0, BAD_VALUE);
        dueScript(p, 5, 4000, BAD_VALUE);
        dueScript(p, Integer.MIN_VALUE, 4000, BAD_VALUE);
        dueScript(p, Integer.MAX_VALUE, 4000, BAD_VALUE);
        dueScript(p, 1, -1, BAD_VALUE);
        dueScript(p, 4, Long.MIN_VALUE, BAD_VALUE);
        dueScript(p, 4, Long.MAX_VALUE, BAD_VALUE);
        dueScript(p, 1, 10000, BAD_VALUE);
        dueScript(p, 2, 100000000L, BAD_VALUE);
        dueScript(p, 3, 1000000000000L, BAD_VALUE);
        dueScript(p, 4, 10000000000000000L, BAD_VALUE);
        dueScript(p, 1, 9999, 0);
        dueScript(p, 1, 4000, NONE);
        dueScript(p, 2, 40006000L, NONE);
        dueScript(p, 2, 99999999L, 0);
        dueScript(p, 3, 400060002001L, NONE);
        dueScript(p, 4, 4000600020014000L, NONE);
        dueScript(p, 4, 9999999999999999L, 0);
        dueScript(p, 2, 4000, 0);
        dueScript(p, 4, 0, 0);
    }

    private static void promise28Steps() {
        StepperPlanner p = new StepperPlanner();
        dueScript(p, 1, 1001, 0);
        p.addWait(5);
        p.addMove(7, 0);
        dueScript(p, 1, 1000, 0);
        dueScript(p, 1, 1001, NONE);
        dueScript(p, 1, 1999, NONE);
        dueScript(p, 2, 10014000L, NONE);
        dueScript(p, 2, 10024001L, NONE);
        dueScript(p, 2, 10024002L, 1);
        dueScript(p, 2, 10084007L, NONE);
        dueScript(p, 2, 10086000L, NONE);
        dueScript(p, 2, 10076001L, NONE);
        dueScript(p, 2, 19994007L, NONE);
        dueScript(p, 2, 10081001L, 1);
        dueScript(p, 2, 10071001L, NONE);
        StepperPlanner q = new StepperPlanner();
        q.addMove(999, 0);
        q.addMove(5, 0);
        dueScript(q, 3, 199960014999L, NONE);
        dueScript(q, 3, 199960014998L, 2);
        dueScript(q, 2, 19996001L, NONE);
        dueScript(q, 3, 199860025001L, NONE);
    }

    private static void promise28SpeedLimit() {
        StepperPlanner p = new StepperPlanner();
        p.addMove(20, 0);
        dueScript(p, 1, 2000, 0);
        dueScript(p, 1, 2001, NONE);
        dueScript(p, 1, 2999, NONE);
        dueScript(p, 2, 10055004L, NONE);
        dueScript(p, 3, 201010055001L, NONE);
        dueScript(p, 3, 202010055002L, NONE);
        dueScript(p, 4, 1005201010025002L, NONE);
        dueScript(p, 4, 2001200010015000L, 1);
    }

    private static void promise28Stop() {
        StepperPlanner p = new StepperPlanner();
        dueScript(p, 1, 3000, 0);
        p.addMove(9, 0);
        p.addWait(3);
        dueScript(p, 1, 3000, 0);
        dueScript(p, 2, 10013000L, NONE);
        dueScript(p, 3, 100130006000L, NONE);
        dueScript(p, 3, 100130003000L, 2);
        dueScript(p, 3, 100330006001L, NONE);
        dueScript(p, 3, 100330003000L, NONE);
        dueScript(p, 4, 1003300019994005L, NONE);
        dueScript(p, 2, 10033001L, 1);
        dueScript(p, 2, 10033010L, 1);
        dueScript(p, 2, 10033100L, 1);
    }

    private static void promise28Comparisons() {
        StepperPlanner p = new StepperPlanner();
        dueScript(p, 1, 4000, NONE);
        dueScript(p, 1, 4001, 0);
        dueScript(p, 1, 5000, 0);
        dueScript(p, 1, 6000, NONE);
        dueScript(p, 1, 6001, 0);
        p.addMove(-2, 999);
        p.addMove(999, 1);
        dueScript(p, 1, 5000, 0);
        p.step();
        dueScript(p, 1, 5000, NONE);
        dueScript(p, 1, 5001, 0);
        dueScript(p, 1, 6002, NONE);
        dueScript(p, 2, 19996001L, NONE);
        p.run(99999);
        p.run(99999);
        Check.due("position(0)", p.position(0), 100997);
        dueScript(p, 1, 4997, NONE);
        dueScript(p, 1, 4996, 0);
        p.addMove(3, 0);
        p.run(99999);
        dueScript(p, 1, 4000, 0);
        p.addMove(-999, 0);
        p.addMove(-2, 0);
        p.run(99999);
        p.run(99999);
        Check.due("position(0)", p.position(0), 99999);
        dueScript(p, 1, 4001, 0);
        dueScript(p, 1, 4999, 0);
        for (int i = 0; i < 8; i++) {
            p.addWait(1);
        }
        dueScript(p, 1, 6008, NONE);
        dueScript(p, 1, 6009, 0);
        dueScript(p, 1, 6018, 0);
        dueScript(p, 1, 6108, 0);
    }

    private static void promise28OtherGroups() {
        StepperPlanner p = new StepperPlanner();
        p.addMove(1, 1);
        int[] groups = {0, 1, 999, 7000, 7001, 8000, 8001, 9000, 9001, 9999, 6010, 6100, 6101, 6999, 1000, 2000};
        for (int group : groups) {
            dueScript(p, 1, group, 0);
            dueScript(p, 2, 60010000L + group, 1);
        }
    }

    private static void promise28CommandsFollowOneAnother() {
        StepperPlanner p = new StepperPlanner();
        p.addMove(5, 0);
        dueScript(p, 4, 1001100110015001L, 3);
        dueScript(p, 4, 1001100110015002L, NONE);
        dueScript(p, 4, 4000100140014001L, NONE);
        dueScript(p, 4, 4000100140004001L, 2);
        dueScript(p, 4, 4001100140004001L, 0);
        dueScript(p, 4, 4000600260014001L, 1);
        dueScript(p, 3, 101040104000L, 1);
        dueScript(p, 3, 101040054000L, 2);
    }

    private static void promise29Arguments() {
        StepperPlanner p = new StepperPlanner();
        int[] bad = {0, -1, 501, Integer.MIN_VALUE, Integer.MAX_VALUE};
        for (int m : bad) {
            Check.due("randomSpeeds(1, " + m + ")", p.randomSpeeds(1, m), BAD_VALUE);
        }
        Check.due("randomSpeeds(1, 1), empty", p.randomSpeeds(1, 1), 0);
        Check.due("randomSpeeds(1, 500), empty", p.randomSpeeds(1, 500), 0);
        p.addMove(1, 0);
        Check.due("randomSpeeds(1, 500)", p.randomSpeeds(Long.MAX_VALUE, 500), p.randomSpeeds(Long.MAX_VALUE, 1));
    }

    /** The same speeds, set by hand. */
    private static void promise29RandomSpeeds() {
        long[] seeds = {0, 1, 5, -1, 77, Long.MIN_VALUE, Long.MAX_VALUE, 123456789012345L};
        for (long seed : seeds) {
            StepperPlanner p = new StepperPlanner();
            StepperPlanner q = new StepperPlanner();
            for (StepperPlanner r : new StepperPlanner[] {p, q}) {
                r.setAcceleration(300);
                r.addWait(50);
                r.addMove(120, -7);
                r.addWait(60);
                r.addMove(90, 90);
                r.step();
                r.step();
            }
            long x = seed;
            int ticks = 0;
            int m = 0;
            while (q.queueLength() > 0) {
                x = x * 6364136223846793005L + 1442695040888963407L;
                int v = (int) (x >>> 33);
                if (v % 4 == 0) {
                    q.setSpeedLimit(v / 4 % 999 + 1);
                }
                ticks += q.step();
                m++;
                if (m % 40 == 1) {
                    Check.due("randomSpeeds(" + seed + ", " + m + ")", p.randomSpeeds(seed, m), ticks);
                }
            }
            Check.due("randomSpeeds(" + seed + ", 500)", p.randomSpeeds(seed, 500), ticks);
            Check.due("randomSpeeds(" + seed + ", " + m + ")", p.randomSpeeds(seed, m), ticks);
        }
    }

    private static void promise29ByHand() {
        StepperPlanner p = new StepperPlanner();
        p.addWait(3);
        p.addWait(4);
        p.addWait(5);
        Check.due("randomSpeeds(9, 1)", p.randomSpeeds(9, 1), 3);
        Check.due("randomSpeeds(9, 2)", p.randomSpeeds(9, 2), 7);
        Check.due("randomSpeeds(9, 3)", p.randomSpeeds(9, 3), 12);
        Check.due("randomSpeeds(9, 4)", p.randomSpeeds(9, 4), 12);
        StepperPlanner q = new StepperPlanner();
        q.addMove(400, 0);
        // Only the first 500 steps at most are made, here all 400.
        Check.due("as many steps as there are", q.randomSpeeds(77, 500), q.randomSpeeds(77, 400));
        q.addMove(400, 0);
        Check.holds("no more than 500 steps", q.randomSpeeds(77, 500) > q.randomSpeeds(77, 499));
    }

    private static void scriptsChangeNothing() {
        StepperPlanner p = new StepperPlanner();
        p.addMove(9, -9);
        p.step();
        p.step();
        p.runScript(4, 1002200130001999L);
        p.randomSpeeds(3, 500);
        Check.due("position(0)", p.position(0), 100002);
        Check.due("position(1)", p.position(1), 99998);
        Check.due("clock()", p.clock(), 2000);
        Check.due("rampIndex()", p.rampIndex(), 1);
        Check.due("itemAt(0)", p.itemAt(0), 7);
        Check.due("topIndex()", p.topIndex(), 195);
        Check.due("setSpeedLimit(5)", p.setSpeedLimit(5), 200);
        Check.due("undo()", p.undo(), 3);
    }
}
