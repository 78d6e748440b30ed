/** What a call that is not refused changes in what later calls answer, and that it is all. */
public final class ChangesTest {
    private static final Check CHECK = new Check();

    public static void main(String[] args) {
        totesAndOrders();
        lines();
        cells();
        lights();
        pieces();
        days();
        changes();
        completing();
        releasing();
        seeds();
        asking();
        CHECK.end();
    }

    private static void changes(String answer, String call, String... changed) {
        CHECK.topic("changes of " + call);
        CHECK.changesOnly(Scene.MIXED, answer, call, changed);
    }

    private static String[] scansInto(int cell, String... others) {
        String[] calls = new String[10 + others.length];
        for (int good = 0; good < 10; good++) {
            calls[good] = "scan(" + cell + ", " + good + ", 0)";
        }
        System.arraycopy(others, 0, calls, 10, others.length);
        return calls;
    }

    private static void totesAndOrders() {
        changes("10", "tote(4, 5)", "count(4)", "tote(4, 1)");
        changes("7", "order()", "count(1)", "told(7, 0)", "told(7, 1)", "told(7, 2)", "told(7, 3)",
                "told(7, 4)", "told(7, 5)", "cell(7)", "complete(7)", "order()");
    }

    private static void lines() {
        changes("done", "line(6, 9, 3)", "told(6, 2)", "told(6, 4)", "piece(6, 9, 0)",
                "piece(6, 9, 1)", "piece(6, 9, 2)", "cell(6)", "miss(6, 9, 0)");
        changes("done", "line(5, 9, 3)", "told(5, 2)", "told(5, 4)", "piece(5, 9, 0)",
                "piece(5, 9, 1)", "piece(5, 9, 2)", "scan(0, 9, 0)", "miss(5, 9, 0)");
    }

    /** One COMPLETE order more, in the lowest cell: other samples of the same seeds. */
    private static void cells() {
        changes("0", "cell(5)", "count(2)", "told(5, 0)", "told(5, 1)", "cell(5)", "miss(5, 4, 0)",
                "complete(5)", "release(0)", "sample() 2", "sample() 3", "sample() 4", "sample() 5",
                "sample() 6", "sample() 7", "sample() 8");
    }

    private static void lights() {
        changes("true", "light(0, true)");
        changes("false", "light(3, false)");
        changes("false", "light(3, true)", "light(3, true)");
        changes("true", "light(2, false)", "light(2, true)");
        changes("true", "light(0, false)", scansInto(0, "cell(5)", "light(0, true)"));
    }

    private static void pieces() {
        changes("1", "scan(2, 4, 5)", "count(3)", "count(4)", "told(2, 3)", "piece(2, 4, 1)",
                "tote(4, 1)", "miss(2, 4, 0)");
        changes("0", "undo(2, 7)", "count(3)", "count(4)", "told(2, 3)", "piece(2, 7, 1)",
                "tote(7, 1)", "scan(2, 7, 0)", "miss(2, 7, 0)");
        changes("2", "miss(2, 4, 10)", "piece(2, 4, 2)");
        changes("2", "miss(2, 4, 9)");
        changes("2", "miss(3, 5, 1)", "piece(3, 5, 2)", "told(3, 5)");
    }

    private static void days() {
        changes("done", "day(3)");
        changes("done", "day(9)", "count(5)");
        changes("done", "day(10)", "count(5)", "told(2, 5)");
    }

    private static void changes() {
        changes("true", "change(2, 4, 3)");
        changes("true", "change(2, 4, 5)", "told(2, 4)", "piece(2, 4, 0)", "miss(2, 4, 0)");
        changes("true", "change(5, 4, 0)", scansInto(0, "told(5, 2)", "told(5, 4)",
                "piece(5, 4, 0)", "piece(5, 4, 1)", "piece(5, 4, 2)", "cell(5)", "miss(5, 4, 0)"));
    }

    private static void completing() {
        CHECK.topic("changes of complete(2)");
        Scene filled = Scene.MIXED.with("scan(2, 4, 1)", "scan(2, 4, 1)");
        CHECK.changesOnly(filled, "true", "complete(2)", "told(2, 0)", "complete(2)");
    }

    /** One COMPLETE order less, that in the lowest cell: other samples of the same seeds. */
    private static void releasing() {
        changes("true", "release(1)", scansInto(1, "count(2)", "count(3)", "told(1, 0)",
                "told(1, 1)", "release(1)", "sample() 2", "sample() 3", "sample() 4", "sample() 5",
                "sample() 6", "sample() 7", "sample() 8"));
    }

    /** Of four COMPLETE orders some samples are the same by chance, and are not named. */
    private static void seeds() {
        changes("done", "seed(77)");
        changes("done", "seed(5)", "sample() 1", "sample() 2", "sample() 3", "sample() 6",
                "sample() 7", "sample() 8");
        changes("1", "sample()", "sample() 1", "sample() 2", "sample() 6", "sample() 7");
    }

    private static void asking() {
        changes("1", "told(2, 0)");
        changes("0", "told(2, 5)");
        changes("9", "piece(2, 4, 2)");
        changes("1", "errors(2)");
        changes("9", "count(4)");
        changes("-1", "count(6)");
    }
}
