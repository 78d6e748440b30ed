/** The sentences before the promises: 512 calls, the ranges, and what is so at first. */
public final class TermsTest {
    private static final Check CHECK = new Check();

    public static void main(String[] args) {
        totesFor512Calls();
        errorsFor512Calls();
        scansAndUndoingFor512Calls();
        samplesFor512Calls();
        cellsAreAsManyAsMadeWith();
        lightsAreOnAtFirst();
        everyGoodIsUsed();
        everyPersonIsUsed();
        firstAndLastDay();
        todayIsZeroAtFirst();
        twentyOrders();
        ordersThatAreGoneCount();
        everyOrderIsUsed();
        oneLineOfEachGood();
        aLineWantsOneToNine();
        linesOfTwoOrdersAreApart();
        statesOneAfterAnother();
        totesAreEmptyAtFirst();
        whatIsScannedIsTakenFromTotes();
        completeOnlyWhenToldSo();
        completeOnlyWithEachLine();
        completeWithWhatIsGivenUp();
        givenUpBehindItsDay();
        givenUpNeverBehindTheLastDay();
        givenUpIsWhatIsNotIn();
        noDayNothingGivenUp();
        CHECK.end();
    }

    private static void totesFor512Calls() {
        CHECK.topic("512 calls, totes");
        Run run = new Run(1);
        for (int i = 1; i <= 511; i++) {
            int due = 100 * i;
            CHECK.due("" + due, "tote(0, 100)", () -> run.answer("tote(0, 100)"));
        }
        CHECK.due("51100", "the 512th call", () -> run.answer("count(4)"));
    }

    private static void errorsFor512Calls() {
        CHECK.topic("512 calls, errors");
        Run run = new Run(1);
        for (int i = 1; i <= 511; i++) {
            CHECK.due("-1", "scan(0, 9, 7)", () -> run.answer("scan(0, 9, 7)"));
        }
        CHECK.due("511", "the 512th call", () -> run.answer("errors(7)"));
    }

    private static void scansAndUndoingFor512Calls() {
        CHECK.topic("512 calls, scans and undoing");
        Run run = new Run(1).given("order()", "line(0, 3, 1)", "cell(0)", "tote(3, 1)");
        for (int i = 1; i <= 253; i++) {
            CHECK.due("1", "scan(0, 3, 0)", () -> run.answer("scan(0, 3, 0)"));
            CHECK.due("0", "undo(0, 3)", () -> run.answer("undo(0, 3)"));
        }
        CHECK.due("1", "a scan", () -> run.answer("scan(0, 3, 0)"));
        CHECK.due("true", "the 512th call", () -> run.answer("complete(0)"));
    }

    private static void samplesFor512Calls() {
        CHECK.topic("512 calls, samples");
        Run run = new Run(2).given("tote(0, 2)", "order()", "line(0, 0, 1)", "cell(0)", "order()",
                "line(1, 0, 1)", "cell(1)", "scan(0, 0, 0)", "scan(1, 0, 0)", "complete(0)",
                "complete(1)");
        long seed = 1;
        for (int call = 12; call <= 512; call++) {
            seed = (seed * 1103515245L + 12345L) % 2147483648L;
            long due = seed / 65536 % 2;
            CHECK.due("" + due, "call " + call + ", sample()", () -> run.answer("sample()"));
        }
    }

    private static void cellsAreAsManyAsMadeWith() {
        for (int cells = 0; cells <= 16; cells++) {
            CHECK.topic("cells of a wall of " + cells);
            Run run = new Run(cells);
            for (int cell = 0; cell < cells; cell++) {
                String scan = "scan(" + cell + ", 0, 0)";
                CHECK.due("-1", scan, () -> run.answer(scan));
            }
            String behind = "scan(" + cells + ", 0, 0)";
            CHECK.due("ArrayIndexOutOfBoundsException", behind, () -> run.answer(behind));
            CHECK.due("" + cells, "count(0)", () -> run.answer("count(0)"));
        }
    }

    private static void lightsAreOnAtFirst() {
        CHECK.topic("each has a light, on at first");
        Run run = new Run(16);
        for (int cell = 0; cell < 16; cell++) {
            String call = "light(" + cell + ", false)";
            CHECK.due("true", call, () -> run.answer(call));
            CHECK.due("false", call, () -> run.answer(call));
        }
    }

    private static void everyGoodIsUsed() {
        for (int good = 0; good <= 9; good++) {
            CHECK.story("goods are 0 .. 9, good " + good, 1, """
                    order() -> 0
                    tote(G, 1) -> 1
                    line(0, G, 2) -> done
                    cell(0) -> 0
                    scan(0, G, 0) -> 1
                    undo(0, G) -> 0
                    miss(0, G, 4) -> 2
                    change(0, G, 1) -> true
                    piece(0, G, 0) -> 1
                    piece(0, G, 1) -> 0
                    piece(0, G, 2) -> 4
                    scan(0, G, 0) -> 1
                    count(4) -> 0
                    complete(0) -> true
                    """.replace("G", "" + good));
        }
    }

    private static void everyPersonIsUsed() {
        for (int person = 0; person <= 7; person++) {
            CHECK.story("persons are 0 .. 7, person " + person, 1, """
                    errors(P) -> 0
                    scan(0, 0, P) -> -1
                    errors(P) -> 1
                    order(); line(0, 0, 1); cell(0); tote(0, 1)
                    scan(0, 0, P) -> 1
                    errors(P) -> 1
                    """.replace("P", "" + person));
        }
    }

    private static void firstAndLastDay() {
        CHECK.story("days are 0 .. 10000", 1, """
                day(0) -> done
                count(5) -> 0
                order(); line(0, 0, 1); cell(0)
                miss(0, 0, 0) -> 1
                piece(0, 0, 2) -> 0
                miss(0, 0, 10000) -> 1
                piece(0, 0, 2) -> 10000
                day(10000) -> done
                count(5) -> 10000
                day(10001) -> IllegalArgumentException
                miss(0, 0, 10001) -> IllegalArgumentException
                piece(0, 0, 2) -> 10000
                count(5) -> 10000
                """);
    }

    private static void todayIsZeroAtFirst() {
        CHECK.story("today is 0 at first", 1, """
                count(5) -> 0
                order(); line(0, 0, 1); cell(0)
                miss(0, 0, 0) -> 1
                told(0, 5) -> 0
                day(1) -> done
                told(0, 5) -> 1
                """);
    }

    private static void twentyOrders() {
        CHECK.topic("orders are numbered 0, 1, .., at most 20");
        Run run = new Run(0);
        for (int order = 0; order < 20; order++) {
            String told = "told(" + order + ", 0)";
            CHECK.due("NoSuchElementException", told, () -> run.answer(told));
            CHECK.due("" + order, "order()", () -> run.answer("order()"));
            CHECK.due("0", told, () -> run.answer(told));
        }
        CHECK.due("UnsupportedOperationException", "order()", () -> run.answer("order()"));
        CHECK.due("UnsupportedOperationException", "order() again", () -> run.answer("order()"));
        CHECK.due("20", "count(1)", () -> run.answer("count(1)"));
    }

    private static void ordersThatAreGoneCount() {
        CHECK.topic("at most 20, with those that are gone");
        Run run = new Run(1).given("tote(0, 20)");
        for (int order = 0; order < 20; order++) {
            CHECK.due("" + order, "order()", () -> run.answer("order()"));
            run.given("line(" + order + ", 0, 1)", "cell(" + order + ")", "scan(0, 0, 0)",
                    "complete(" + order + ")", "release(0)");
        }
        CHECK.due("UnsupportedOperationException", "order()", () -> run.answer("order()"));
        CHECK.due("20", "count(1)", () -> run.answer("count(1)"));
        CHECK.due("3", "told(0, 0)", () -> run.answer("told(0, 0)"));
        CHECK.due("3", "told(19, 0)", () -> run.answer("told(19, 0)"));
    }

    private static void everyOrderIsUsed() {
        CHECK.topic("each of the 20 orders has lines and a cell");
        Run run = new Run(16);
        for (int order = 0; order < 20; order++) {
            int wanted = order % 9 + 1;
            run.given("order()", "line(" + order + ", " + order % 10 + ", " + wanted + ")");
        }
        for (int order = 19; order >= 0; order--) {
            String call = "cell(" + order + ")";
            int cell = 19 - order;
            CHECK.due("" + (cell < 16 ? cell : -1), call, () -> run.answer(call));
        }
        for (int order = 0; order < 20; order++) {
            String call = "piece(" + order + ", " + order % 10 + ", 0)";
            CHECK.due("" + (order % 9 + 1), call, () -> run.answer(call));
        }
    }

    private static void oneLineOfEachGood() {
        CHECK.topic("lines, one a good");
        Run run = new Run(1).given("order()");
        for (int good = 0; good <= 9; good++) {
            String line = "line(0, " + good + ", 9)";
            CHECK.due("done", line, () -> run.answer(line));
            CHECK.due("IllegalStateException", line + " again", () -> run.answer(line));
        }
        CHECK.due("10", "told(0, 2)", () -> run.answer("told(0, 2)"));
        CHECK.due("90", "told(0, 4)", () -> run.answer("told(0, 4)"));
    }

    private static void aLineWantsOneToNine() {
        for (int n = 1; n <= 9; n++) {
            CHECK.story("a line wants 1 .. 9, here " + n, 1, """
                    order(); order()
                    line(0, 5, N) -> done
                    piece(0, 5, 0) -> N
                    told(0, 4) -> N
                    line(1, 5, 1); change(1, 5, N)
                    piece(1, 5, 0) -> N
                    """.replace("N", "" + n));
        }
        CHECK.story("a line wants 1 .. 9", 1, """
                order()
                line(0, 5, 0) -> IllegalArgumentException
                line(0, 5, 10) -> IllegalArgumentException
                told(0, 2) -> 0
                line(0, 5, 9) -> done
                """);
    }

    private static void linesOfTwoOrdersAreApart() {
        CHECK.story("an order has lines of its own", 2, """
                order(); order(); line(0, 3, 1)
                line(1, 3, 2) -> done
                cell(0); cell(1); tote(3, 3); scan(1, 3, 0); miss(1, 3, 7)
                piece(0, 3, 0) -> 1
                piece(0, 3, 1) -> 0
                piece(0, 3, 2) -> -1
                piece(1, 3, 0) -> 2
                piece(1, 3, 1) -> 1
                piece(1, 3, 2) -> 7
                change(0, 3, 4) -> true
                piece(1, 3, 0) -> 2
                """);
    }

    private static void statesOneAfterAnother() {
        CHECK.story("0 OPEN, 1 at the WALL, 2 COMPLETE, 3 GONE", 1, """
                order(); line(0, 2, 1); tote(2, 1)
                told(0, 0) -> 0
                told(0, 1) -> -1
                cell(0) -> 0
                told(0, 0) -> 1
                told(0, 1) -> 0
                scan(0, 2, 0); complete(0)
                told(0, 0) -> 2
                told(0, 1) -> 0
                release(0) -> true
                told(0, 0) -> 3
                told(0, 1) -> -1
                """);
    }

    private static void totesAreEmptyAtFirst() {
        CHECK.topic("of each good 0 pieces are in totes at first");
        Run run = new Run(1).given("order()");
        for (int good = 0; good <= 9; good++) {
            run.given("line(0, " + good + ", 1)");
        }
        run.given("cell(0)");
        for (int good = 0; good <= 9; good++) {
            String scan = "scan(0, " + good + ", 0)";
            CHECK.due("-5", scan, () -> run.answer(scan));
        }
        for (int good = 0; good <= 9; good++) {
            String tote = "tote(" + good + ", 1)";
            CHECK.due("1", tote, () -> run.answer(tote));
        }
    }

    private static void whatIsScannedIsTakenFromTotes() {
        CHECK.story("what is scanned in is taken from totes", 2, """
                tote(6, 2); tote(8, 5)
                order(); line(0, 6, 3); cell(0); order(); line(1, 6, 3); cell(1)
                scan(0, 6, 0) -> 1
                count(4) -> 6
                count(3) -> 1
                scan(1, 6, 0) -> 1
                count(4) -> 5
                count(3) -> 2
                scan(0, 6, 0) -> -5
                scan(1, 6, 0) -> -5
                count(4) -> 5
                count(3) -> 2
                tote(6, 1) -> 1
                tote(8, 1) -> 6
                """);
    }

    private static void completeOnlyWhenToldSo() {
        CHECK.story("complete when it is told so", 1, """
                order(); line(0, 1, 1); cell(0); tote(1, 1)
                scan(0, 1, 0) -> 1
                told(0, 0) -> 1
                sample() -> -1
                release(0) -> false
                undo(0, 1) -> 0
                scan(0, 1, 0) -> 1
                complete(0) -> true
                told(0, 0) -> 2
                sample() -> 0
                """);
    }

    private static void completeOnlyWithEachLine() {
        for (int missing = 0; missing <= 9; missing++) {
            CHECK.topic("of each line all pieces are in, all but good " + missing);
            Run run = new Run(1).given("order()");
            for (int good = 0; good <= 9; good++) {
                run.given("line(0, " + good + ", 1)", "tote(" + good + ", 1)");
            }
            run.given("cell(0)");
            for (int good = 0; good <= 9; good++) {
                if (good != missing) {
                    run.given("scan(0, " + good + ", 0)");
                }
            }
            CHECK.due("false", "complete(0)", () -> run.answer("complete(0)"));
            CHECK.due("1", "told(0, 0)", () -> run.answer("told(0, 0)"));
            run.given("scan(0, " + missing + ", 0)");
            CHECK.due("true", "complete(0)", () -> run.answer("complete(0)"));
        }
    }

    private static void completeWithWhatIsGivenUp() {
        CHECK.story("all pieces are in, or are given up", 1, """
                order(); line(0, 0, 1); line(0, 1, 9); line(0, 2, 2); cell(0)
                tote(0, 1); tote(2, 1); scan(0, 0, 0); scan(0, 2, 0)
                miss(0, 1, 0); day(1)
                told(0, 5) -> 9
                complete(0) -> false
                miss(0, 2, 1); day(2)
                told(0, 5) -> 10
                complete(0) -> true
                told(0, 5) -> 10
                """);
    }

    private static void givenUpBehindItsDay() {
        CHECK.story("behind the day, today is later", 1, """
                order(); line(0, 0, 3); cell(0)
                miss(0, 0, 5) -> 3
                day(4) -> done
                told(0, 5) -> 0
                complete(0) -> false
                day(5) -> done
                told(0, 5) -> 0
                complete(0) -> false
                day(6) -> done
                told(0, 5) -> 3
                complete(0) -> true
                """);
    }

    private static void givenUpNeverBehindTheLastDay() {
        CHECK.story("no day is behind the last", 1, """
                order(); line(0, 0, 1); cell(0)
                miss(0, 0, 10000) -> 1
                day(10000) -> done
                told(0, 5) -> 0
                complete(0) -> false
                miss(0, 0, 9999) -> 1
                told(0, 5) -> 1
                complete(0) -> true
                """);
    }

    private static void givenUpIsWhatIsNotIn() {
        CHECK.story("what is not in is given up", 1, """
                order(); line(0, 0, 3); cell(0); tote(0, 3); scan(0, 0, 0); miss(0, 0, 1); day(2)
                told(0, 5) -> 2
                told(0, 3) -> 1
                told(0, 4) -> 3
                scan(0, 0, 0) -> 1
                told(0, 5) -> 1
                scan(0, 0, 0) -> 1
                told(0, 5) -> 0
                undo(0, 0) -> 2
                told(0, 5) -> 1
                change(0, 0, 9) -> true
                told(0, 5) -> 7
                change(0, 0, 2) -> true
                told(0, 5) -> 0
                """);
    }

    private static void noDayNothingGivenUp() {
        CHECK.story("of a line without a day nothing is given up", 1, """
                order(); line(0, 0, 1); line(0, 1, 1); cell(0); miss(0, 1, 0); day(10000)
                piece(0, 0, 2) -> -1
                told(0, 5) -> 1
                complete(0) -> false
                """);
    }
}
