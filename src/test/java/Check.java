/** Counts answers that are as due and answers that are not. */
final class Check {
    private static int right = 0;
    private static int wrong = 0;

    private Check() {
    }

    static void due(String call, long got, long want) {
        if (got == want) {
            right++;
            return;
        }
        wrong++;
        if (wrong <= 50) {
            System.out.println(call + " answered " + got + ", due is " + want);
        }
    }

    static void holds(String what, boolean so) {
        due(what, so ? 1 : 0, 1);
    }

    static int wrongAnswers() {
        return wrong;
    }

    /** Appends all characters of a text. */
    static void type(StepperPlanner planner, String text) {
        for (int i = 0; i < text.length(); i++) {
            int length = planner.append(text.charAt(i));
            holds("append of character " + i + " of " + text, length > 0);
        }
    }

    /** A planner that has loaded a setup. */
    static StepperPlanner loaded(String setup, int items) {
        StepperPlanner planner = new StepperPlanner();
        type(planner, setup);
        due("load of " + setup, planner.load(), items);
        return planner;
    }

    static void end() {
        System.out.println(right + " answers as due, " + wrong + " not");
        if (wrong != 0 || right == 0) {
            System.exit(1);
        }
    }
}
