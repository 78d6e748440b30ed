import java.util.Arrays;
import java.util.LinkedHashMap;
import java.util.Map;

/** The calls that bring a wall somewhere, so that the very same wall can be made many times. */
final class Scene {
    /**
     * Six cells; today is 3. Order 0 is GONE, 1 COMPLETE in cell 1 (of good 4 two are given up),
     * 2 at the wall in cell 2 (good 4: one of three is in; good 7: all are in), 3 at the wall in
     * the dark cell 3 (good 5 alone, none in), 4 at the wall in cell 4 (good 6 alone, one of two
     * in), 5 OPEN with a line of good 4, 6 OPEN without lines. Cell 0 is free, 5 free and dark.
     */
    static final Scene MIXED = new Scene(6,
            "tote(0, 3)", "tote(4, 6)", "tote(7, 2)", "tote(6, 1)", "tote(9, 2)",
            "order()", "line(0, 0, 1)", "cell(0)", "scan(0, 0, 1)", "complete(0)",
            "order()", "line(1, 0, 1)", "line(1, 4, 2)", "cell(1)", "scan(1, 0, 1)",
            "miss(1, 4, 2)",
            "order()", "line(2, 4, 3)", "line(2, 7, 1)", "cell(2)", "scan(2, 4, 1)",
            "scan(2, 7, 1)", "miss(2, 4, 9)",
            "order()", "line(3, 5, 2)", "cell(3)", "light(3, false)",
            "order()", "line(4, 6, 2)", "cell(4)", "scan(4, 6, 1)",
            "order()", "line(5, 4, 2)",
            "order()",
            "light(5, false)", "release(0)", "day(3)", "complete(1)", "scan(5, 0, 2)", "seed(77)");

    private static final int ORDERS = 20;
    private static final int GOODS = 10;
    private static final int CELLS = 16;
    private static final int PERSONS = 8;

    private final int cells;
    private final String[] steps;
    private Map<String, String> untouched;

    Scene(int cells, String... steps) {
        this.cells = cells;
        this.steps = steps;
    }

    Scene with(String... more) {
        String[] all = Arrays.copyOf(steps, steps.length + more.length);
        System.arraycopy(more, 0, all, steps.length, more.length);
        return new Scene(cells, all);
    }

    Run run() {
        return new Run(cells).given(steps);
    }

    /** What later calls answer if nothing is called in between. */
    Map<String, String> later() {
        if (untouched == null) {
            untouched = later("");
        }
        return untouched;
    }

    /**
     * What the calls behind a call answer: the ones that only ask, and, for what these do not
     * tell (lights, each good's totes, the seed), calls that change the wall. Each kind has a
     * wall of its own, since an object is used for 512 calls alone.
     */
    Map<String, String> later(String call) {
        Map<String, String> answers = new LinkedHashMap<>();
        askAll(behind(call), answers);
        askLines(behind(call), 0, ORDERS / 2, answers);
        askLines(behind(call), ORDERS / 2, ORDERS, answers);
        useCells(behind(call), answers);
        finish(behind(call), answers);
        return answers;
    }

    private Run behind(String call) {
        Run run = run();
        if (!call.isEmpty()) {
            run.answer(call);
        }
        return run;
    }

    private static void ask(Run run, String call, Map<String, String> answers) {
        answers.put(call, run.answer(call));
    }

    private static void askAll(Run run, Map<String, String> answers) {
        for (int what = 0; what < 6; what++) {
            ask(run, "count(" + what + ")", answers);
        }
        for (int person = 0; person < PERSONS; person++) {
            ask(run, "errors(" + person + ")", answers);
        }
        for (int order = 0; order < ORDERS; order++) {
            for (int what = 0; what < 6; what++) {
                ask(run, "told(" + order + ", " + what + ")", answers);
            }
        }
    }

    private static void askLines(Run run, int from, int to, Map<String, String> answers) {
        for (int order = from; order < to; order++) {
            for (int good = 0; good < GOODS; good++) {
                for (int what = 0; what < 3; what++) {
                    ask(run, "piece(" + order + ", " + good + ", " + what + ")", answers);
                }
            }
        }
    }

    private static void useCells(Run run, Map<String, String> answers) {
        for (int order = 0; order < ORDERS; order++) {
            ask(run, "cell(" + order + ")", answers);
        }
        for (int cell = 0; cell < CELLS; cell++) {
            ask(run, "light(" + cell + ", true)", answers);
        }
        for (int good = 0; good < GOODS; good++) {
            ask(run, "tote(" + good + ", 1)", answers);
        }
        for (int cell = 0; cell < CELLS; cell++) {
            for (int good = 0; good < GOODS; good++) {
                ask(run, "scan(" + cell + ", " + good + ", 0)", answers);
            }
        }
    }

    /** All at the wall is given up, so that samples tell the seed. */
    private static void finish(Run run, Map<String, String> answers) {
        ask(run, "day(10000)", answers);
        for (int order = 0; order < ORDERS; order++) {
            for (int good = 0; good < GOODS; good++) {
                ask(run, "miss(" + order + ", " + good + ", 0)", answers);
            }
            ask(run, "complete(" + order + ")", answers);
        }
        for (int i = 1; i <= 8; i++) {
            answers.put("sample() " + i, run.answer("sample()"));
        }
        for (int cell = 0; cell < CELLS; cell++) {
            ask(run, "release(" + cell + ")", answers);
        }
        ask(run, "order()", answers);
    }
}
