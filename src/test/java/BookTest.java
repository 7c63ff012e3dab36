import java.util.Random;

/** Random runs of at most 512 calls, and tables, on StepperPlanner and on BookPlanner side by side. */
public final class BookTest {
    private static final int RUNS = 1500;
    private static final int MOST_CALLS = 512;

    private final Random random;
    private final StepperPlanner planner = new StepperPlanner();
    private final BookPlanner book = new BookPlanner();
    private final StringBuilder log = new StringBuilder();
    private int calls;
    private boolean differs;

    private BookTest(long seed) {
        random = new Random(seed);
    }

    public static void main(String[] args) {
        int runs = args.length > 0 ? Integer.parseInt(args[0]) : RUNS;
        int first = args.length > 1 ? Integer.parseInt(args[1]) : 0;
        for (int seed = first; seed < first + runs && Check.wrongAnswers() < 5; seed++) {
            new BookTest(seed).playRun(seed);
        }
        compareTables();
        Check.end();
    }

    /** Each acceleration with some speed limits, each speed limit with some accelerations. */
    private static void compareTables() {
        for (int i = 1; i <= 999; i++) {
            compareProfile(i, 1 + i * 373 % 999);
            compareProfile(1 + i * 619 % 999, i);
            compareProfile(i, 999);
        }
    }

    private static void compareProfile(int a, int v) {
        StepperPlanner p = new StepperPlanner();
        p.setAcceleration(a);
        p.setSpeedLimit(v);
        String name = "a " + a + " v " + v + " ";
        Check.due(name + "topIndex()", p.topIndex(), BookPlanner.topIndex(a, v));
        for (int n = (a + v) % 7; n < 1000; n += 7) {
            Check.due(name + "interval(" + n + ")", p.interval(n), BookPlanner.intervalOf(a, v, n));
        }
        for (int length = 1 + (a + v) % 31; length < 1000; length += 31) {
            Check.due(name + "moveTicks(" + length + ")", p.moveTicks(length), BookPlanner.ticksOfMove(a, v, length));
        }
    }

    private void playRun(int seed) {
        // A short run of calls is told whole when it goes wrong, a long one reaches deeper states.
        int most = seed % 3 == 0 ? MOST_CALLS : 40 + random.nextInt(200);
        int style = random.nextInt(4);
        while (calls < most && !differs) {
            if (style == 0 && random.nextInt(40) == 0 || style == 1 && calls == 0) {
                typeSetup(most);
            }
            callSomething(style);
            if (random.nextInt(3) == 0) {
                look(random.nextInt(12), most);
            }
        }
        if (differs) {
            System.out.println("run " + seed + ":" + log);
        }
    }

    private void note(String call, int got, int want) {
        calls++;
        log.append(' ').append(call).append('=').append(want);
        if (got != want) {
            differs = true;
        }
        Check.due(call + " as call " + calls, got, want);
    }

    /** Types a setup that is mostly right, and loads it. */
    private void typeSetup(int most) {
        StringBuilder t = new StringBuilder();
        t.append('a').append(digits(value(1, 999), 3)).append('v').append(digits(value(1, 999), 3));
        int items = random.nextInt(10);
        for (int i = 0; i < items; i++) {
            if (random.nextBoolean()) {
                t.append('w').append(digits(random.nextInt(12) == 0 ? 0 : value(1, 9999), 4));
            } else {
                t.append('m').append(random.nextBoolean() ? '+' : '-').append(digits(distance(), 3));
                t.append(random.nextBoolean() ? '+' : '-').append(digits(distance(), 3));
            }
        }
        if (random.nextInt(3) == 0) {
            String signs = "av+-mw0123456789 /:AMWV\0\u00ff";
            t.setCharAt(random.nextInt(t.length()), signs.charAt(random.nextInt(signs.length())));
        }
        if (random.nextInt(4) == 0) {
            t.setLength(random.nextInt(t.length() + 1));
        }
        if (calls + t.length() + 4 > most) {
            return;
        }
        note("clearText()", planner.clearText(), book.clearText());
        for (int i = 0; i < t.length(); i++) {
            append(t.charAt(i));
        }
        note("errorPosition()", planner.errorPosition(), book.errorPosition());
        note("load()", planner.load(), book.load());
    }

    private static String digits(int value, int count) {
        String s = "000" + Math.abs(value);
        return s.substring(s.length() - count);
    }

    private void append(int c) {
        note("append(" + c + ")", planner.append(c), book.append(c));
    }

    /** Mostly a value in the range, with small ones and the edges more often, sometimes one just outside. */
    private int value(int least, int greatest) {
        switch (random.nextInt(6)) {
            case 0:
                return least + random.nextInt(Math.min(10, greatest - least));
            case 1:
                return greatest - random.nextInt(3);
            default:
                return least + random.nextInt(greatest - least + 1);
        }
    }

    private int argument(int least, int greatest) {
        switch (random.nextInt(16)) {
            case 0:
                return random.nextBoolean() ? least - 1 : greatest + 1;
            case 1:
                return random.nextBoolean() ? least : greatest;
            case 2:
                return random.nextInt(8) == 0 ? random.nextInt() : random.nextBoolean() ? -least : least;
            default:
                return value(least, greatest);
        }
    }

    private int distance() {
        int bound = random.nextInt(3) == 0 ? 1000 : random.nextBoolean() ? 12 : 60;
        return random.nextInt(6) == 0 ? 0 : random.nextInt(2 * bound - 1) - bound + 1;
    }

    private void callSomething(int style) {
        int choice = random.nextInt(style == 3 ? 60 : 40);
        if (choice < 6) {
            int dx = random.nextInt(20) == 0 ? argument(-999, 999) : distance();
            int dy = random.nextInt(20) == 0 ? argument(-999, 999) : distance();
            note("addMove(" + dx + "," + dy + ")", planner.addMove(dx, dy), book.addMove(dx, dy));
        } else if (choice < 8) {
            int t = random.nextBoolean() ? argument(1, 9999) : 1 + random.nextInt(500);
            note("addWait(" + t + ")", planner.addWait(t), book.addWait(t));
        } else if (choice < 11) {
            int t = random.nextInt(3) == 0 ? argument(1, 99999) : 1 + random.nextInt(4000);
            note("run(" + t + ")", planner.run(t), book.run(t));
        } else if (choice < 13) {
            int v = argument(1, 999);
            note("setSpeedLimit(" + v + ")", planner.setSpeedLimit(v), book.setSpeedLimit(v));
        } else if (choice < 14) {
            int a = argument(1, 999);
            note("setAcceleration(" + a + ")", planner.setAcceleration(a), book.setAcceleration(a));
        } else if (choice < 16) {
            note("undo()", planner.undo(), book.undo());
        } else if (choice < 17) {
            note("stop()", planner.stop(), book.stop());
        } else if (choice < 18) {
            int i = random.nextInt(11) - 1;
            note("removeItem(" + i + ")", planner.removeItem(i), book.removeItem(i));
        } else if (choice < 19) {
            int slot = random.nextInt(8) == 0 ? argument(0, 20) : random.nextInt(2);
            note("save(" + slot + ")", planner.save(slot), book.save(slot));
        } else if (choice < 20) {
            int slot = random.nextInt(8) == 0 ? argument(0, 20) : random.nextInt(2);
            note("restore(" + slot + ")", planner.restore(slot), book.restore(slot));
        } else if (choice < 27) {
            predict(choice - 20);
        } else if (choice < 29) {
            script();
        } else if (choice < 31) {
            long seed = random.nextInt(10) == 0 ? random.nextInt(5) - 2 : random.nextLong();
            int m = random.nextBoolean() ? argument(1, 500) : 1 + random.nextInt(60);
            note("randomSpeeds(" + seed + "," + m + ")", planner.randomSpeeds(seed, m), book.randomSpeeds(seed, m));
        } else if (choice < 32) {
            append(random.nextInt(300) - 20);
        } else {
            note("step()", planner.step(), book.step());
        }
    }

    private void predict(int choice) {
        switch (choice) {
            case 0:
                note("ticksLeft()", planner.ticksLeft(), book.ticksLeft());
                break;
            case 1:
                int length = argument(1, 999);
                note("moveTicks(" + length + ")", planner.moveTicks(length), book.moveTicks(length));
                break;
            case 2:
                int t = argument(1, 99999);
                note("greatestLength(" + t + ")", planner.greatestLength(t), book.greatestLength(t));
                break;
            case 3:
                if (random.nextInt(4) == 0) {
                    leastAcceleration();
                }
                break;
            case 4:
                int n = argument(0, 999);
                note("approximateInterval(" + n + ")", planner.approximateInterval(n), book.approximateInterval(n));
                break;
            default:
                int axis = random.nextInt(12) == 0 ? argument(0, 2) : random.nextInt(2);
                int ticks = random.nextInt(3) == 0 ? argument(0, 99999) : random.nextInt(3000);
                note("positionAfter(" + axis + "," + ticks + ")", planner.positionAfter(axis, ticks),
                    book.positionAfter(axis, ticks));
        }
    }

    private void leastAcceleration() {
        int length = argument(1, 999);
        int ticks = argument(1, 99999);
        if (length >= 1 && length <= 999 && random.nextInt(3) > 0) {
            // Just what some acceleration takes, give or take a tick.
            int near = planner.moveTicks(length) * (3 + random.nextInt(5)) / 4 + random.nextInt(3) - 1;
            calls++;
            ticks = Math.max(1, Math.min(99999, near));
        }
        note("leastAcceleration(" + length + "," + ticks + ")", planner.leastAcceleration(length, ticks),
            book.leastAcceleration(length, ticks));
    }

    private void script() {
        int n = 1 + random.nextInt(4);
        long script = 0;
        for (int i = 0; i < n; i++) {
            script = script * 10000 + command();
        }
        switch (random.nextInt(20)) {
            case 0:
                n = argument(1, 4);
                break;
            case 1:
                script = random.nextLong();
                break;
            case 2:
                script = script + (random.nextBoolean() ? 10000 : -10000);
                break;
            default:
        }
        note("runScript(" + n + "," + script + ")", planner.runScript(n, script), book.runScript(n, script));
    }

    private int command() {
        switch (random.nextInt(11)) {
            case 0:
            case 1:
                return 1000 + random.nextInt(20);
            case 2:
                return 1000 + random.nextInt(1000);
            case 3:
                return 2000 + random.nextInt(1000);
            case 4:
            case 5:
                return 3000 + (random.nextInt(8) == 0 ? random.nextInt(1000) : 0);
            case 6:
                return 4000 + Math.floorMod(book.position(0) - 100000 + random.nextInt(3) - 1, 1000);
            case 7:
                return 5000 + Math.max(0, book.rampIndex());
            case 8:
                return 6000 + book.queueLength();
            case 9:
                return 6000 + random.nextInt(10) * (random.nextInt(6) == 0 ? 100 : 1);
            default:
                return random.nextInt(10000);
        }
    }

    private void look(int what, int most) {
        if (calls + 10 > most) {
            return;
        }
        note("position(0)", planner.position(0), book.position(0));
        note("position(1)", planner.position(1), book.position(1));
        note("clock()", planner.clock(), book.clock());
        note("rampIndex()", planner.rampIndex(), book.rampIndex());
        note("queueLength()", planner.queueLength(), book.queueLength());
        int i = what - 2;
        note("itemAt(" + i + ")", planner.itemAt(i), book.itemAt(i));
        note("itemAt(0)", planner.itemAt(0), book.itemAt(0));
        if (what == 0) {
            note("topIndex()", planner.topIndex(), book.topIndex());
            int n = argument(0, 999);
            note("interval(" + n + ")", planner.interval(n), book.interval(n));
            int axis = argument(0, 2);
            note("position(" + axis + ")", planner.position(axis), book.position(axis));
        }
    }
}
