/**
 * Each sentence of the promises that names an edge: too small, too large, empty, full, a
 * wrap-around, and the answers (-1, false, a reason) by which a call changes nothing.
 */
public final class EdgesTest {
    private static final Check CHECK = new Check();

    /** Two cells: order 0 wants two of good 4 (one is in) and one of good 7; order 1 is OPEN. */
    private static final Scene HALF_FULL = new Scene(2, "order()", "line(0, 4, 2)", "line(0, 7, 1)",
            "cell(0)", "tote(4, 3)", "tote(7, 1)", "scan(0, 4, 0)", "order()", "line(1, 4, 1)");

    public static void main(String[] args) {
        cellsBelow0();
        cellsAbove16();
        toteTellsOfItsGood();
        toteFrom1To100();
        orderWithoutLines();
        lineWhileOpen();
        lineOfAGoodThatWasTakenAway();
        cellIsTheLowest();
        cellNeedsItsLightOn();
        noCellInAFullWall();
        noCellInTheDark();
        noCellWithoutCells();
        lightTellsWhetherItWasOn();
        lightOfATakenCell();
        scanOfTheLastPieceWanted();
        scanOfTheLastPieceInTotes();
        scanOfNineOfNine();
        scanReasonsAlone();
        scanReasonsTheFirstThatHolds();
        scanReasonsChangeErrorsAlone();
        undoDownToNone();
        undoOfOneGoodAlone();
        undoWithItsLightOff();
        undoBehindTheDay();
        missTellsWhatIsMissing();
        missInsteadOfAnEarlierDay();
        missAgainWhenSomethingIsMissing();
        dayAgainAndLater();
        changeFrom0To9();
        changeToWhatIsIn();
        changeBelowWhatIsIn();
        changeTo0();
        changeTo0AtTheWall();
        changeAwayWhatIsMissing();
        completeInVain();
        releaseInVain();
        releaseFreesTheCell();
        releaseLeavesTheLight();
        sampleOfNone();
        sampleOfOne();
        sampleByCells();
        sampleWhereTheSeedWraps();
        seedFromLeastToMost();
        toldOfEachState();
        pieceOfEachState();
        errorsOfOnePerson();
        countOfAnotherWhat();
        countOfFreeCells();
        countOfPieces();
        CHECK.end();
    }

    private static void cellsBelow0() {
        for (int cells : new int[] {-1, -2, -16, -17, Integer.MIN_VALUE}) {
            CHECK.story("promise 1, below 0 as 0: " + cells, cells, """
                    count(0) -> 0
                    count(2) -> 0
                    light(0, true) -> ArrayIndexOutOfBoundsException
                    order(); line(0, 0, 1)
                    cell(0) -> -1
                    """);
        }
    }

    private static void cellsAbove16() {
        for (int cells : new int[] {16, 17, 32, 40, Integer.MAX_VALUE}) {
            CHECK.story("promise 1, above 16 as 16: " + cells, cells, """
                    count(0) -> 16
                    count(2) -> 16
                    light(15, true) -> true
                    light(16, true) -> ArrayIndexOutOfBoundsException
                    light(17, true) -> ArrayIndexOutOfBoundsException
                    """);
        }
        CHECK.topic("promise 1, the seventeenth order finds no cell");
        Run run = new Run(17);
        for (int order = 0; order < 17; order++) {
            run.given("order()", "line(" + order + ", 0, 1)");
            String call = "cell(" + order + ")";
            int due = order < 16 ? order : -1;
            CHECK.due("" + due, call, () -> run.answer(call));
        }
    }

    private static void toteTellsOfItsGood() {
        CHECK.story("promise 2, how many there are of the good", 1, """
                tote(0, 7) -> 7
                tote(1, 5) -> 5
                tote(0, 1) -> 8
                tote(9, 2) -> 2
                count(4) -> 15
                order(); line(0, 0, 2); cell(0); scan(0, 0, 0)
                tote(0, 1) -> 8
                undo(0, 0); scan(0, 0, 0); undo(0, 0)
                tote(0, 1) -> 10
                tote(1, 1) -> 6
                """);
    }

    private static void toteFrom1To100() {
        CHECK.story("promise 2, 1 .. 100", 1, """
                tote(3, 0) -> IllegalArgumentException
                tote(3, 1) -> 1
                tote(3, 101) -> IllegalArgumentException
                tote(3, 100) -> 101
                tote(3, 99) -> 200
                tote(3, 2) -> 202
                """);
    }

    private static void orderWithoutLines() {
        CHECK.story("promise 3, an order without lines", 1, """
                order() -> 0
                told(0, 0) -> 0
                told(0, 1) -> -1
                told(0, 2) -> 0
                told(0, 3) -> 0
                told(0, 4) -> 0
                told(0, 5) -> 0
                piece(0, 0, 0) -> NoSuchElementException
                cell(0) -> IllegalStateException
                order() -> 1
                count(1) -> 2
                """);
    }

    private static void lineWhileOpen() {
        CHECK.story("promise 4, an OPEN order's line", 0, """
                order()
                line(0, 0, 1) -> done
                cell(0) -> -1
                line(0, 1, 2) -> done
                told(0, 2) -> 2
                told(0, 4) -> 3
                line(0, 1, 3) -> IllegalStateException
                piece(0, 1, 0) -> 2
                """);
    }

    private static void lineOfAGoodThatWasTakenAway() {
        CHECK.story("promise 4, it has one of the good no more", 1, """
                order(); line(0, 0, 5)
                change(0, 0, 0) -> true
                line(0, 0, 2) -> done
                piece(0, 0, 0) -> 2
                piece(0, 0, 1) -> 0
                piece(0, 0, 2) -> -1
                cell(0) -> 0
                """);
    }

    private static void cellIsTheLowest() {
        CHECK.story("promise 5, the lowest cell that is free", 3, """
                tote(0, 9); order(); order(); order(); order(); order()
                line(0, 0, 1); line(1, 0, 1); line(2, 0, 1); line(3, 0, 1); line(4, 0, 1)
                cell(4) -> 0
                cell(0) -> 1
                cell(3) -> 2
                scan(0, 0, 0); scan(2, 0, 0); complete(4); complete(3); release(2); release(0)
                cell(1) -> 0
                cell(2) -> 2
                told(1, 1) -> 0
                told(2, 1) -> 2
                told(0, 1) -> 1
                """);
    }

    private static void cellNeedsItsLightOn() {
        CHECK.story("promise 5, whose light is on", 3, """
                order(); line(0, 0, 1); order(); line(1, 0, 1); order(); line(2, 0, 1)
                light(0, false); light(1, false)
                cell(0) -> 2
                light(1, true)
                cell(1) -> 1
                light(0, true)
                cell(2) -> 0
                light(0, false)
                told(2, 0) -> 1
                told(2, 1) -> 0
                """);
    }

    private static void noCellInAFullWall() {
        CHECK.topic("promise 5, -1 if none is free, and it stays OPEN");
        Scene full = HALF_FULL.with("cell(1)", "order()", "line(2, 7, 1)");
        CHECK.changesNothing(full, "-1", "cell(2)");
        CHECK.story("promise 5, a cell behind -1", 1, """
                order(); line(0, 0, 1); order(); line(1, 0, 1); tote(0, 1)
                cell(0) -> 0
                cell(1) -> -1
                told(1, 0) -> 0
                told(1, 1) -> -1
                scan(0, 0, 0); complete(0)
                cell(1) -> -1
                release(0)
                cell(1) -> 0
                told(1, 0) -> 1
                """);
    }

    private static void noCellInTheDark() {
        CHECK.topic("promise 5, -1 if no free one's light is on");
        CHECK.changesNothing(HALF_FULL.with("light(1, false)"), "-1", "cell(1)");
        CHECK.changesNothing(HALF_FULL.with("light(1, false)", "light(0, false)"), "-1", "cell(1)");
    }

    private static void noCellWithoutCells() {
        CHECK.topic("promise 5, -1 in a wall without cells");
        CHECK.changesNothing(new Scene(0, "order()", "line(0, 9, 9)"), "-1", "cell(0)");
    }

    private static void lightTellsWhetherItWasOn() {
        CHECK.story("promise 6, whether it was on", 2, """
                light(1, true) -> true
                light(1, false) -> true
                light(1, false) -> false
                light(0, false) -> true
                light(1, true) -> false
                light(1, true) -> true
                light(0, true) -> false
                """);
    }

    private static void lightOfATakenCell() {
        CHECK.story("promise 6, a cell that is taken", 1, """
                order(); line(0, 0, 1); cell(0); tote(0, 1)
                light(0, false) -> true
                scan(0, 0, 0) -> -2
                light(0, true) -> false
                scan(0, 0, 0) -> 1
                light(0, false) -> true
                complete(0) -> true
                light(0, false) -> false
                """);
    }

    private static void scanOfTheLastPieceWanted() {
        CHECK.topic("promise 7, 1, and it is in");
        CHECK.changesOnly(new Scene(1, "order()", "line(0, 4, 1)", "cell(0)", "tote(4, 2)"), "1",
                "scan(0, 4, 0)", "count(3)", "count(4)", "told(0, 3)", "piece(0, 4, 1)",
                "tote(4, 1)", "scan(0, 4, 0)", "miss(0, 4, 0)");
        CHECK.story("promise 7, all that it wants", 1, """
                order(); line(0, 4, 1); cell(0); tote(4, 2)
                scan(0, 4, 0) -> 1
                scan(0, 4, 0) -> -4
                errors(0) -> 1
                piece(0, 4, 1) -> 1
                """);
    }

    private static void scanOfTheLastPieceInTotes() {
        CHECK.story("promise 7, none is in totes", 1, """
                order(); line(0, 4, 3); cell(0); tote(4, 1); tote(5, 9)
                scan(0, 4, 0) -> 1
                scan(0, 4, 0) -> -5
                tote(4, 1) -> 1
                scan(0, 4, 0) -> 1
                scan(0, 4, 0) -> -5
                undo(0, 4) -> 1
                scan(0, 4, 0) -> 1
                """);
    }

    private static void scanOfNineOfNine() {
        CHECK.topic("promise 7, nine of nine");
        Run run = new Run(1).given("order()", "line(0, 9, 9)", "cell(0)", "tote(9, 10)");
        for (int i = 0; i < 9; i++) {
            CHECK.due("1", "scan(0, 9, 7)", () -> run.answer("scan(0, 9, 7)"));
        }
        CHECK.due("-4", "a tenth scan", () -> run.answer("scan(0, 9, 7)"));
        CHECK.due("9", "told(0, 3)", () -> run.answer("told(0, 3)"));
        CHECK.due("1", "count(4)", () -> run.answer("count(4)"));
    }

    /** Cells: 0 an order at the wall, 1 a COMPLETE one (good 5 given up), 2 free. */
    private static Scene reasons() {
        return new Scene(3, "order()", "line(0, 4, 2)", "line(0, 5, 1)", "line(0, 6, 1)", "cell(0)",
                "order()", "line(1, 4, 1)", "line(1, 5, 1)", "line(1, 6, 1)", "cell(1)",
                "tote(4, 9)", "tote(6, 2)", "tote(8, 1)", "scan(0, 6, 0)", "scan(1, 4, 0)",
                "scan(1, 6, 0)", "miss(1, 5, 0)", "day(1)", "complete(1)");
    }

    private static void reason(String name, Scene scene, String reason, String cellAndGood) {
        CHECK.topic("promise 7, " + name);
        CHECK.changesOnly(scene, reason, "scan(" + cellAndGood + ", 3)", "errors(3)");
    }

    private static void scanReasonsAlone() {
        reason("-1 the cell is free", reasons(), "-1", "2, 4");
        reason("-2 its light is off", reasons().with("light(0, false)"), "-2", "0, 4");
        reason("-3 no line of the good", reasons(), "-3", "0, 8");
        reason("-4 all that it wants are in", reasons().with("tote(6, 1)"), "-4", "0, 6");
        reason("-4 the order is COMPLETE", reasons().with("tote(5, 1)"), "-4", "1, 5");
        reason("-5 none is in totes", reasons(), "-5", "0, 5");
    }

    private static void scanReasonsTheFirstThatHolds() {
        Scene dark = reasons().with("light(0, false)", "light(1, false)", "light(2, false)");
        reason("-1 before -2", dark, "-1", "2, 4");
        reason("-1 before -2 and -5", dark, "-1", "2, 5");
        reason("-2 before -3", dark, "-2", "0, 8");
        reason("-2 before -3 and -5", dark, "-2", "0, 9");
        reason("-2 before -4, all in", dark.with("tote(6, 1)"), "-2", "0, 6");
        reason("-2 before -4, COMPLETE", dark.with("tote(5, 1)"), "-2", "1, 5");
        reason("-2 before -5", dark, "-2", "0, 5");
        reason("-3 before -4", reasons(), "-3", "1, 8");
        reason("-3 before -5", reasons(), "-3", "0, 9");
        reason("-3 before -4 and -5", reasons(), "-3", "1, 9");
        reason("-4 before -5, all in", reasons(), "-4", "0, 6");
        reason("-4 before -5, COMPLETE", reasons(), "-4", "1, 5");
    }

    private static void scanReasonsChangeErrorsAlone() {
        CHECK.story("promise 7, the person has an error more each time", 2, """
                scan(0, 0, 2) -> -1
                scan(1, 9, 2) -> -1
                order(); line(0, 0, 1); cell(0)
                scan(0, 0, 2) -> -5
                scan(0, 1, 6) -> -3
                light(0, false)
                scan(0, 0, 2) -> -2
                light(0, true); tote(0, 2); scan(0, 0, 6)
                scan(0, 0, 2) -> -4
                errors(2) -> 5
                errors(6) -> 1
                errors(0) -> 0
                errors(7) -> 0
                """);
    }

    private static void undoDownToNone() {
        CHECK.topic("promise 8, how many are in still");
        Run run = new Run(1).given("order()", "line(0, 2, 9)", "cell(0)", "tote(2, 9)");
        for (int i = 0; i < 9; i++) {
            run.given("scan(0, 2, 0)");
        }
        for (int left = 8; left >= 0; left--) {
            CHECK.due("" + left, "undo(0, 2)", () -> run.answer("undo(0, 2)"));
        }
        CHECK.due("IllegalStateException", "undo(0, 2)", () -> run.answer("undo(0, 2)"));
        CHECK.due("0", "told(0, 3)", () -> run.answer("told(0, 3)"));
        CHECK.due("10", "tote(2, 1)", () -> run.answer("tote(2, 1)"));
        CHECK.due("1", "a scan again", () -> run.answer("scan(0, 2, 0)"));
    }

    private static void undoOfOneGoodAlone() {
        CHECK.topic("promise 8, the piece of the good, whatever was scanned in last");
        Scene two = new Scene(2, "tote(4, 3)", "tote(5, 2)", "order()", "line(0, 4, 2)",
                "line(0, 5, 1)", "cell(0)", "order()", "line(1, 4, 1)", "cell(1)", "scan(0, 4, 0)",
                "scan(0, 5, 0)", "scan(1, 4, 0)");
        CHECK.changesOnly(two, "0", "undo(0, 4)", "count(3)", "count(4)", "told(0, 3)",
                "piece(0, 4, 1)", "tote(4, 1)", "miss(0, 4, 0)");
    }

    private static void undoWithItsLightOff() {
        CHECK.story("promise 8, an undo asks for no light", 1, """
                order(); line(0, 4, 1); cell(0); tote(4, 1); scan(0, 4, 0); light(0, false)
                undo(0, 4) -> 0
                light(0, true) -> false
                scan(0, 4, 0) -> 1
                errors(0) -> 0
                """);
    }

    private static void undoBehindTheDay() {
        CHECK.story("promise 8, behind the line's day", 1, """
                order(); line(0, 4, 1); cell(0); tote(4, 1); miss(0, 4, 2); scan(0, 4, 0); day(3)
                told(0, 5) -> 0
                undo(0, 4) -> 0
                told(0, 5) -> 1
                piece(0, 4, 2) -> 2
                complete(0) -> true
                count(4) -> 1
                """);
    }

    private static void missTellsWhatIsMissing() {
        CHECK.topic("promise 9, how many are missing now");
        Run run = new Run(1).given("order()", "line(0, 2, 9)", "cell(0)", "tote(2, 9)");
        for (int missing = 9; missing >= 1; missing--) {
            CHECK.due("" + missing, "miss(0, 2, 4)", () -> run.answer("miss(0, 2, 4)"));
            run.given("scan(0, 2, 0)");
        }
        CHECK.due("IllegalStateException", "miss(0, 2, 5)", () -> run.answer("miss(0, 2, 5)"));
        CHECK.due("4", "piece(0, 2, 2)", () -> run.answer("piece(0, 2, 2)"));
    }

    private static void missInsteadOfAnEarlierDay() {
        CHECK.story("promise 9, instead of an earlier one", 1, """
                order(); line(0, 2, 2); line(0, 3, 1); cell(0)
                miss(0, 2, 5) -> 2
                miss(0, 2, 8) -> 2
                piece(0, 2, 2) -> 8
                day(6)
                told(0, 5) -> 0
                miss(0, 2, 6) -> 2
                piece(0, 2, 2) -> 6
                told(0, 5) -> 0
                miss(0, 2, 5) -> 2
                told(0, 5) -> 2
                miss(0, 2, 5) -> 2
                told(0, 5) -> 2
                miss(0, 2, 10000) -> 2
                told(0, 5) -> 0
                miss(0, 2, 0) -> 2
                piece(0, 2, 2) -> 0
                told(0, 5) -> 2
                piece(0, 3, 2) -> -1
                """);
    }

    private static void missAgainWhenSomethingIsMissing() {
        CHECK.story("promise 9, nothing is missing, and something again", 1, """
                order(); line(0, 2, 1); cell(0); tote(2, 1); scan(0, 2, 0)
                miss(0, 2, 5) -> IllegalStateException
                piece(0, 2, 2) -> -1
                change(0, 2, 2)
                miss(0, 2, 5) -> 1
                change(0, 2, 1)
                miss(0, 2, 6) -> IllegalStateException
                piece(0, 2, 2) -> 5
                undo(0, 2)
                miss(0, 2, 6) -> 1
                piece(0, 2, 2) -> 6
                """);
    }

    private static void dayAgainAndLater() {
        CHECK.story("promise 10, it was a later one", 1, """
                day(0) -> done
                day(1) -> done
                day(1) -> done
                day(0) -> IllegalStateException
                count(5) -> 1
                day(-1) -> IllegalArgumentException
                day(9999) -> done
                day(9998) -> IllegalStateException
                day(10000) -> done
                day(10000) -> done
                day(9999) -> IllegalStateException
                day(10001) -> IllegalArgumentException
                count(5) -> 10000
                """);
    }

    private static void changeFrom0To9() {
        CHECK.topic("promise 11, 0 .. 9 pieces");
        for (int n = 1; n <= 9; n++) {
            Run run = new Run(1).given("order()", "line(0, 0, 5)", "line(0, 1, 1)");
            String call = "change(0, 0, " + n + ")";
            int due = n;
            CHECK.due("true", call, () -> run.answer(call));
            CHECK.due("" + due, "piece(0, 0, 0)", () -> run.answer("piece(0, 0, 0)"));
            CHECK.due("" + (due + 1), "told(0, 4)", () -> run.answer("told(0, 4)"));
            CHECK.due("2", "told(0, 2)", () -> run.answer("told(0, 2)"));
        }
    }

    private static void changeToWhatIsIn() {
        CHECK.topic("promise 11, not more are in than that");
        Scene two = HALF_FULL.with("scan(0, 4, 0)");
        CHECK.changesNothing(two, "true", "change(0, 4, 2)");
        CHECK.changesOnly(two, "true", "change(0, 4, 3)", "told(0, 4)", "piece(0, 4, 0)",
                "scan(0, 4, 0)", "miss(0, 4, 0)");
    }

    private static void changeBelowWhatIsIn() {
        CHECK.topic("promise 11, false, and nothing changes");
        CHECK.changesNothing(HALF_FULL.with("scan(0, 4, 0)"), "false", "change(0, 4, 1)",
                "change(0, 4, 0)");
        CHECK.changesNothing(HALF_FULL.with("change(0, 7, 0)", "scan(0, 4, 0)"), "false",
                "change(0, 4, 1)");
        CHECK.topic("promise 11, false, and what is not in is wanted still");
        CHECK.changesNothing(HALF_FULL.with("scan(0, 4, 0)", "change(0, 4, 9)", "miss(0, 4, 3)"),
                "false", "change(0, 4, 1)", "change(0, 4, 0)");
    }

    private static void changeTo0() {
        CHECK.story("promise 11, with 0 no such line any more, OPEN", 1, """
                order(); line(0, 4, 2); line(0, 7, 1)
                change(0, 4, 0) -> true
                told(0, 2) -> 1
                told(0, 4) -> 1
                piece(0, 4, 0) -> NoSuchElementException
                change(0, 4, 1) -> NoSuchElementException
                change(0, 7, 0) -> true
                told(0, 2) -> 0
                told(0, 4) -> 0
                cell(0) -> IllegalStateException
                """);
    }

    private static void changeTo0AtTheWall() {
        CHECK.story("promise 11, with 0 no such line any more, at the wall", 1, """
                order(); line(0, 4, 2); line(0, 7, 1); cell(0); tote(4, 1); miss(0, 4, 0); day(1)
                told(0, 5) -> 2
                change(0, 4, 0) -> true
                told(0, 5) -> 0
                told(0, 2) -> 1
                piece(0, 4, 2) -> NoSuchElementException
                miss(0, 4, 5) -> NoSuchElementException
                scan(0, 4, 0) -> -3
                undo(0, 4) -> IllegalStateException
                line(0, 4, 1) -> IllegalStateException
                change(0, 7, 0) -> IllegalStateException
                told(0, 2) -> 1
                told(0, 0) -> 1
                """);
    }

    private static void changeAwayWhatIsMissing() {
        CHECK.story("promise 11, what is missing is wanted no more", 1, """
                order(); line(0, 4, 2); line(0, 7, 1); cell(0); tote(4, 1); scan(0, 4, 0)
                complete(0) -> false
                change(0, 4, 1) -> true
                complete(0) -> false
                change(0, 7, 0) -> true
                complete(0) -> true
                """);
    }

    private static void completeInVain() {
        CHECK.topic("promise 12, false if pieces are missing, and nothing changes");
        CHECK.changesNothing(HALF_FULL, "false", "complete(0)");
        CHECK.changesNothing(HALF_FULL.with("scan(0, 4, 0)"), "false", "complete(0)");
        CHECK.changesNothing(HALF_FULL.with("scan(0, 7, 0)"), "false", "complete(0)");
        CHECK.changesNothing(HALF_FULL.with("scan(0, 7, 0)", "miss(0, 4, 6)", "day(6)"), "false",
                "complete(0)");
    }

    private static void releaseInVain() {
        CHECK.topic("promise 13, false if it is not COMPLETE, and nothing changes");
        CHECK.changesNothing(HALF_FULL, "false", "release(0)");
        CHECK.changesNothing(HALF_FULL.with("scan(0, 4, 0)", "scan(0, 7, 0)"), "false",
                "release(0)");
    }

    private static void releaseFreesTheCell() {
        CHECK.story("promise 13, the cell is free again, the order GONE", 1, """
                tote(4, 1); order(); line(0, 4, 1); cell(0); scan(0, 4, 0)
                order(); line(1, 5, 1)
                cell(1) -> -1
                complete(0); release(0)
                told(0, 0) -> 3
                told(0, 1) -> -1
                count(2) -> 1
                count(3) -> 0
                count(4) -> 0
                release(0) -> IllegalStateException
                scan(0, 4, 0) -> -1
                undo(0, 4) -> IllegalStateException
                cell(1) -> 0
                release(0) -> false
                told(0, 0) -> 3
                """);
    }

    private static void releaseLeavesTheLight() {
        CHECK.story("promise 13, a light stays as it was", 2, """
                order(); line(0, 4, 1); cell(0); tote(4, 1); scan(0, 4, 0); complete(0)
                light(0, false) -> true
                release(0) -> true
                order(); line(1, 4, 1)
                cell(1) -> 1
                light(0, true) -> false
                """);
    }

    /** Orders with a line of good 0 that wants one piece, in the cells of their numbers. */
    private static Scene complete(int orders) {
        Scene scene = new Scene(16, "tote(0, 40)");
        for (int order = 0; order < orders; order++) {
            scene = scene.with("order()", "line(" + order + ", 0, 1)", "cell(" + order + ")",
                    "scan(" + order + ", 0, 0)", "complete(" + order + ")");
        }
        return scene;
    }

    private static void sampleOfNone() {
        CHECK.topic("promise 14, -1 if there are none, and the seed stays");
        CHECK.changesNothing(HALF_FULL, "-1", "sample()");
        CHECK.changesNothing(HALF_FULL.with("seed(0)"), "-1", "sample()");
        CHECK.changesNothing(complete(1).with("sample()", "release(0)", "order()", "line(1, 0, 1)",
                "cell(1)", "order()", "line(2, 0, 1)", "cell(2)", "order()", "line(3, 0, 1)",
                "cell(3)"), "-1", "sample()");
        CHECK.changesNothing(new Scene(0), "-1", "sample()");
    }

    private static void sampleOfOne() {
        CHECK.topic("promise 14, modulo 1");
        Run run = complete(3).with("release(0)", "release(2)").run();
        for (int i = 0; i < 5; i++) {
            CHECK.due("1", "sample()", () -> run.answer("sample()"));
        }
    }

    private static void sampleByCells() {
        // The seeds behind 1 are 16838, 5758, 10113 times 65536 and more: modulo 4 2, 2, 1.
        CHECK.story("promise 14, by their cells", 5, """
                tote(0, 9); order(); order(); order(); order(); order(); order()
                line(0, 0, 1); line(1, 0, 1); line(2, 0, 1); line(3, 0, 1); line(4, 0, 1)
                cell(4); cell(2); cell(3); cell(0); cell(1)
                scan(4, 0, 0); scan(3, 0, 0); scan(1, 0, 0); scan(0, 0, 0)
                complete(1); complete(0); complete(2); complete(4)
                sample() -> 0
                sample() -> 0
                sample() -> 2
                seed(1); release(0); scan(2, 0, 0); complete(3); line(5, 0, 1); cell(5)
                sample() -> 0
                sample() -> 0
                sample() -> 3
                """);
    }

    private static void sampleWhereTheSeedWraps() {
        // Behind these the seed is 0, 65535, 65536, 2147418112 and 2147483647.
        int[] seeds = {2088216195, 2032319262, 1742513795, 286434947, 230538014};
        int[] quotients = {0, 0, 1, 32767, 32767};
        for (int orders = 1; orders <= 16; orders++) {
            CHECK.topic("promise 14, the seed's edges, of " + orders);
            Run run = complete(orders).run();
            for (int i = 0; i < seeds.length; i++) {
                run.given("seed(" + seeds[i] + ")");
                int due = quotients[i] % orders;
                CHECK.due("" + due, "sample() behind " + seeds[i], () -> run.answer("sample()"));
            }
        }
        CHECK.topic("promise 14, the seed that wrapped is the next one's");
        Run run = complete(16).run().given("seed(2088216195)", "sample()");
        for (int due : new int[] {0, 12, 4}) {
            CHECK.due("" + due, "sample() behind 0", () -> run.answer("sample()"));
        }
    }

    private static void seedFromLeastToMost() {
        CHECK.topic("promise 15, 0 .. 2147483647");
        Scene sixteen = complete(16);
        // Of sixteen: the seed 0 gives 0, 12, 4; 1 gives 6, 14, 1; 2147483647 gives 9, 9, 6.
        String[][] rows = {{"0", "0", "12", "4"}, {"1", "6", "14", "1"}, {"MAX", "9", "9", "6"}};
        for (String[] row : rows) {
            Run run = sixteen.run();
            String seed = "seed(" + row[0] + ")";
            CHECK.due("done", seed, () -> run.answer(seed));
            for (int i = 1; i < row.length; i++) {
                CHECK.due(row[i], "sample() behind " + seed, () -> run.answer("sample()"));
            }
        }
        CHECK.topic("promise 15, 1 at first");
        CHECK.changesNothing(sixteen, "done", "seed(1)");
    }

    private static void toldOfEachState() {
        CHECK.story("promise 16, of each state", 2, """
                order(); line(0, 0, 9); line(0, 9, 1)
                told(0, 1) -> -1
                told(0, 2) -> 2
                told(0, 3) -> 0
                told(0, 4) -> 10
                told(0, 5) -> 0
                light(0, false)
                cell(0) -> 1
                told(0, 1) -> 1
                tote(9, 1); scan(1, 9, 0); miss(0, 0, 0); day(1)
                told(0, 3) -> 1
                told(0, 4) -> 10
                told(0, 5) -> 9
                complete(0); day(2)
                told(0, 0) -> 2
                told(0, 1) -> 1
                told(0, 5) -> 9
                release(1); day(3)
                told(0, 0) -> 3
                told(0, 1) -> -1
                told(0, 2) -> 2
                told(0, 3) -> 1
                told(0, 4) -> 10
                told(0, 5) -> 9
                """);
    }

    private static void pieceOfEachState() {
        CHECK.story("promise 17, of each state", 1, """
                order(); line(0, 0, 9)
                piece(0, 0, 0) -> 9
                piece(0, 0, 1) -> 0
                piece(0, 0, 2) -> -1
                cell(0); tote(0, 9); scan(0, 0, 0); miss(0, 0, 0)
                piece(0, 0, 1) -> 1
                piece(0, 0, 2) -> 0
                day(1); complete(0)
                piece(0, 0, 0) -> 9
                piece(0, 0, 1) -> 1
                piece(0, 0, 2) -> 0
                release(0)
                piece(0, 0, 0) -> 9
                piece(0, 0, 1) -> 1
                piece(0, 0, 2) -> 0
                """);
    }

    private static void errorsOfOnePerson() {
        CHECK.topic("promise 18, the errors of a person");
        for (int person = 0; person <= 7; person++) {
            CHECK.changesOnly(HALF_FULL, "-1", "scan(1, 0, " + person + ")",
                    "errors(" + person + ")");
        }
        CHECK.changesNothing(HALF_FULL, "0", "errors(0)", "errors(7)");
    }

    private static void countOfAnotherWhat() {
        CHECK.topic("promise 19, -1 for another what");
        CHECK.changesNothing(HALF_FULL, "-1", "count(-1)", "count(6)", "count(MIN)", "count(MAX)");
        CHECK.changesNothing(new Scene(0), "-1", "count(-1)", "count(6)");
        CHECK.changesNothing(new Scene(0), "0", "count(0)", "count(1)", "count(2)", "count(3)",
                "count(4)", "count(5)");
    }

    private static void countOfFreeCells() {
        CHECK.story("promise 19, free cells", 2, """
                count(2) -> 2
                light(1, false)
                count(2) -> 2
                order(); line(0, 0, 1)
                count(2) -> 2
                cell(0)
                count(2) -> 1
                light(1, true); order(); line(1, 0, 1); cell(1)
                count(2) -> 0
                tote(0, 2); scan(0, 0, 0); complete(0)
                count(2) -> 0
                release(0)
                count(2) -> 1
                count(0) -> 2
                """);
    }

    private static void countOfPieces() {
        CHECK.story("promise 19, pieces in cells and in totes", 2, """
                tote(0, 3); tote(9, 100)
                count(3) -> 0
                count(4) -> 103
                order(); line(0, 0, 2); cell(0); order(); line(1, 9, 1); line(1, 0, 1); cell(1)
                scan(0, 0, 0); scan(0, 0, 0); scan(1, 9, 0)
                count(3) -> 3
                count(4) -> 100
                complete(0)
                count(3) -> 3
                release(0)
                count(3) -> 1
                count(4) -> 100
                undo(1, 9)
                count(3) -> 0
                count(4) -> 101
                """);
    }
}
