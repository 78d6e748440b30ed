/**
 * Each sentence of the document by which a call is refused: the exception that is due, the first
 * that holds where several do, and that a refused call leaves no trace in what later calls answer.
 */
public final class RefusalsTest {
    private static final String INDEX = "ArrayIndexOutOfBoundsException";
    private static final String NO_ELEMENT = "NoSuchElementException";
    private static final String ARGUMENT = "IllegalArgumentException";
    private static final String STATE = "IllegalStateException";
    private static final String NO_ROOM = "UnsupportedOperationException";

    private static final String[] NO_CELLS = {"-1", "6", "7", "15", "16", "MIN", "MAX"};
    private static final String[] NO_ORDERS = {"-1", "7", "19", "20", "MIN", "MAX"};
    private static final String[] NO_GOODS = {"-1", "10", "MIN", "MAX"};
    private static final String[] NO_PERSONS = {"-1", "8", "MIN", "MAX"};
    private static final String[] NO_DAYS = {"-1", "10001", "MIN", "MAX"};

    private static final Check CHECK = new Check();

    public static void main(String[] args) {
        sceneIsAsSaid();
        tote();
        order();
        lineOfNoOrder();
        lineOutsideRange();
        lineNotAsItIsNow();
        cellOfNoOrder();
        cellNotAsItIsNow();
        light();
        scanOfNoCell();
        scanOutsideRange();
        undoOfNoCell();
        undoOutsideRange();
        undoNotAsItIsNow();
        missOfNoOrderOrLine();
        missOutsideRange();
        missNotAsItIsNow();
        day();
        changeOfNoOrderOrLine();
        changeOutsideRange();
        changeNotAsItIsNow();
        complete();
        release();
        seed();
        told();
        piece();
        errors();
        everyCellOfAWallWithoutCells();
        CHECK.end();
    }

    private static void refused(String exception, String... calls) {
        CHECK.changesNothing(Scene.MIXED, exception, calls);
    }

    /** The call with each of the values in the place of '#'. */
    private static void eachRefused(String exception, String call, String... values) {
        for (String value : values) {
            refused(exception, call.replace("#", value));
        }
    }

    private static void sceneIsAsSaid() {
        CHECK.topic("the scene");
        int[] states = {3, 2, 1, 1, 1, 0, 0};
        for (int order = 0; order < states.length; order++) {
            CHECK.changesNothing(Scene.MIXED, "" + states[order], "told(" + order + ", 0)");
        }
        CHECK.changesNothing(Scene.MIXED, "2", "told(1, 5)", "count(2)");
        CHECK.changesNothing(Scene.MIXED, "1", "piece(2, 4, 1)", "piece(2, 7, 1)",
                "piece(4, 6, 1)");
        CHECK.changesNothing(Scene.MIXED, "0", "told(3, 3)", "told(6, 2)");
        CHECK.changesNothing(Scene.MIXED, "3", "count(5)");
    }

    private static void tote() {
        CHECK.topic("promise 2, a good or a number outside its range");
        eachRefused(ARGUMENT, "tote(#, 1)", NO_GOODS);
        eachRefused(ARGUMENT, "tote(#, 0)", NO_GOODS);
        eachRefused(ARGUMENT, "tote(0, #)", "0", "-1", "101", "MIN", "MAX");
        eachRefused(ARGUMENT, "tote(9, #)", "0", "101");
    }

    private static void order() {
        CHECK.topic("promise 3, no room");
        Scene full = Scene.MIXED;
        for (int number = 7; number < 20; number++) {
            full = full.with("order()");
        }
        CHECK.changesNothing(full, NO_ROOM, "order()");
        CHECK.topic("promise 3, no room though one is gone");
        CHECK.changesNothing(full.with("release(1)"), NO_ROOM, "order()");
        CHECK.topic("promise 3, the order that there was no room for");
        CHECK.changesNothing(full, NO_ELEMENT, "line(20, 0, 1)", "cell(20)", "told(20, 0)");
    }

    private static void lineOfNoOrder() {
        CHECK.topic("promise 4, an order that there is not");
        eachRefused(NO_ELEMENT, "line(#, 0, 1)", NO_ORDERS);
        CHECK.topic("promise 4, that before numbers outside their range");
        eachRefused(NO_ELEMENT, "line(#, 10, 1)", NO_ORDERS);
        eachRefused(NO_ELEMENT, "line(#, 0, 10)", NO_ORDERS);
        eachRefused(NO_ELEMENT, "line(#, -1, 0)", NO_ORDERS);
    }

    private static void lineOutsideRange() {
        CHECK.topic("promise 4, a good outside its range");
        eachRefused(ARGUMENT, "line(5, #, 1)", NO_GOODS);
        eachRefused(ARGUMENT, "line(5, #, 10)", NO_GOODS);
        CHECK.topic("promise 4, pieces outside 1 .. 9");
        eachRefused(ARGUMENT, "line(5, 0, #)", "0", "-1", "10", "MIN", "MAX");
        CHECK.topic("promise 4, that before a line that it has");
        eachRefused(ARGUMENT, "line(5, 4, #)", "0", "10");
        CHECK.topic("promise 4, that before an order that is not OPEN");
        for (String order : new String[] {"0", "1", "2"}) {
            eachRefused(ARGUMENT, "line(" + order + ", #, 1)", NO_GOODS);
            eachRefused(ARGUMENT, "line(" + order + ", 4, #)", "0", "10");
            eachRefused(ARGUMENT, "line(" + order + ", 8, #)", "0", "10");
        }
    }

    private static void lineNotAsItIsNow() {
        CHECK.topic("promise 4, the order is not OPEN");
        refused(STATE, "line(0, 8, 1)", "line(1, 8, 1)", "line(2, 8, 1)");
        refused(STATE, "line(0, 0, 1)", "line(1, 4, 2)", "line(2, 7, 1)");
        CHECK.topic("promise 4, it has one of the good");
        eachRefused(STATE, "line(5, 4, #)", "1", "2", "9");
    }

    private static void cellOfNoOrder() {
        CHECK.topic("promise 5, an order that there is not");
        eachRefused(NO_ELEMENT, "cell(#)", NO_ORDERS);
    }

    private static void cellNotAsItIsNow() {
        CHECK.topic("promise 5, the order is not OPEN");
        refused(STATE, "cell(0)", "cell(1)", "cell(2)", "cell(3)");
        CHECK.topic("promise 5, the order has no lines");
        refused(STATE, "cell(6)");
        CHECK.changesNothing(Scene.MIXED.with("change(5, 4, 0)"), STATE, "cell(5)");
        CHECK.topic("promise 5, refused though no cell could be got");
        Scene dark = Scene.MIXED.with("light(0, false)");
        CHECK.changesNothing(dark, STATE, "cell(0)", "cell(1)", "cell(2)", "cell(6)");
        CHECK.changesNothing(dark, NO_ELEMENT, "cell(7)");
    }

    private static void light() {
        CHECK.topic("promise 6, a cell that there is not");
        eachRefused(INDEX, "light(#, true)", NO_CELLS);
        eachRefused(INDEX, "light(#, false)", NO_CELLS);
    }

    private static void scanOfNoCell() {
        CHECK.topic("promise 7, a cell that there is not");
        eachRefused(INDEX, "scan(#, 4, 2)", NO_CELLS);
        CHECK.topic("promise 7, that before all others");
        eachRefused(INDEX, "scan(#, 10, 2)", NO_CELLS);
        eachRefused(INDEX, "scan(#, 4, 8)", NO_CELLS);
        eachRefused(INDEX, "scan(#, -1, -1)", NO_CELLS);
    }

    private static void scanOutsideRange() {
        // The cells: free, COMPLETE, at the wall, dark, and one that wants its good.
        for (String cell : new String[] {"0", "1", "2", "3", "4", "5"}) {
            CHECK.topic("promise 7, a good outside its range, before the reasons");
            eachRefused(ARGUMENT, "scan(" + cell + ", #, 2)", NO_GOODS);
            CHECK.topic("promise 7, a person outside its range, before the reasons");
            eachRefused(ARGUMENT, "scan(" + cell + ", 4, #)", NO_PERSONS);
        }
        eachRefused(ARGUMENT, "scan(2, #, 8)", NO_GOODS);
    }

    private static void undoOfNoCell() {
        CHECK.topic("promise 8, a cell that there is not");
        eachRefused(INDEX, "undo(#, 4)", NO_CELLS);
        CHECK.topic("promise 8, that before all others");
        eachRefused(INDEX, "undo(#, 10)", NO_CELLS);
        eachRefused(INDEX, "undo(#, -1)", NO_CELLS);
    }

    private static void undoOutsideRange() {
        CHECK.topic("promise 8, a good outside its range, before the state");
        for (String cell : new String[] {"0", "1", "2", "3", "5"}) {
            eachRefused(ARGUMENT, "undo(" + cell + ", #)", NO_GOODS);
        }
    }

    private static void undoNotAsItIsNow() {
        CHECK.topic("promise 8, the cell is free");
        refused(STATE, "undo(0, 0)", "undo(0, 4)", "undo(5, 4)");
        CHECK.topic("promise 8, the order is COMPLETE");
        refused(STATE, "undo(1, 0)", "undo(1, 4)", "undo(1, 8)");
        CHECK.topic("promise 8, none of the good is in");
        refused(STATE, "undo(3, 5)");
        refused(STATE, "undo(2, 8)", "undo(2, 0)");
        CHECK.changesNothing(Scene.MIXED.with("undo(2, 4)"), STATE, "undo(2, 4)");
    }

    private static void missOfNoOrderOrLine() {
        CHECK.topic("promise 9, an order that there is not");
        eachRefused(NO_ELEMENT, "miss(#, 4, 5)", NO_ORDERS);
        CHECK.topic("promise 9, that before numbers outside their range");
        eachRefused(NO_ELEMENT, "miss(#, 10, 5)", NO_ORDERS);
        eachRefused(NO_ELEMENT, "miss(#, 4, 10001)", NO_ORDERS);
        CHECK.topic("promise 9, a line that the order has not");
        refused(NO_ELEMENT, "miss(2, 8, 5)", "miss(2, 0, 5)", "miss(2, 9, 5)");
        CHECK.topic("promise 9, that before a day outside its range");
        eachRefused(NO_ELEMENT, "miss(2, 8, #)", NO_DAYS);
        CHECK.topic("promise 9, that before an order that is not at the wall");
        refused(NO_ELEMENT, "miss(0, 8, 5)", "miss(1, 8, 5)", "miss(5, 8, 5)", "miss(6, 4, 5)");
    }

    private static void missOutsideRange() {
        CHECK.topic("promise 9, a good outside its range");
        eachRefused(ARGUMENT, "miss(2, #, 5)", NO_GOODS);
        eachRefused(ARGUMENT, "miss(2, #, 10001)", NO_GOODS);
        CHECK.topic("promise 9, a day outside its range");
        eachRefused(ARGUMENT, "miss(2, 4, #)", NO_DAYS);
        CHECK.topic("promise 9, that before the state");
        for (String line : new String[] {"0, 0", "1, 4", "2, 7", "5, 4"}) {
            eachRefused(ARGUMENT, "miss(" + line + ", #)", NO_DAYS);
        }
        for (String order : new String[] {"0", "1", "5", "6"}) {
            eachRefused(ARGUMENT, "miss(" + order + ", #, 5)", NO_GOODS);
        }
    }

    private static void missNotAsItIsNow() {
        CHECK.topic("promise 9, the order is not at the wall");
        refused(STATE, "miss(5, 4, 5)", "miss(1, 4, 5)", "miss(1, 0, 5)", "miss(0, 0, 5)");
        Scene gone = Scene.MIXED.with("release(1)");
        CHECK.changesNothing(gone, STATE, "miss(1, 4, 5)");
        CHECK.topic("promise 9, nothing is missing");
        refused(STATE, "miss(2, 7, 5)", "miss(2, 7, 0)", "miss(2, 7, 10000)");
        Scene filled = Scene.MIXED.with("scan(2, 4, 1)", "scan(2, 4, 1)");
        CHECK.changesNothing(filled, STATE, "miss(2, 4, 5)");
    }

    private static void day() {
        CHECK.topic("promise 10, a day outside its range");
        eachRefused(ARGUMENT, "day(#)", NO_DAYS);
        CHECK.topic("promise 10, it was a later one");
        refused(STATE, "day(2)", "day(1)", "day(0)");
        CHECK.changesNothing(Scene.MIXED.with("day(10000)"), STATE, "day(9999)", "day(3)",
                "day(0)");
    }

    private static void changeOfNoOrderOrLine() {
        CHECK.topic("promise 11, an order that there is not");
        eachRefused(NO_ELEMENT, "change(#, 4, 1)", NO_ORDERS);
        CHECK.topic("promise 11, that before numbers outside their range");
        eachRefused(NO_ELEMENT, "change(#, 10, 1)", NO_ORDERS);
        eachRefused(NO_ELEMENT, "change(#, 4, 10)", NO_ORDERS);
        CHECK.topic("promise 11, a line that the order has not");
        refused(NO_ELEMENT, "change(2, 8, 1)", "change(2, 8, 0)", "change(5, 0, 9)");
        CHECK.topic("promise 11, a line that it has not any more");
        Scene less = Scene.MIXED.with("change(2, 7, 1)", "undo(2, 7)", "change(2, 7, 0)");
        CHECK.changesNothing(less, NO_ELEMENT, "change(2, 7, 0)", "change(2, 7, 1)");
        CHECK.topic("promise 11, that before pieces outside their range");
        eachRefused(NO_ELEMENT, "change(2, 8, #)", "-1", "10", "MIN", "MAX");
        CHECK.topic("promise 11, that before the state");
        refused(NO_ELEMENT, "change(0, 8, 1)", "change(1, 8, 0)", "change(3, 8, 0)");
    }

    private static void changeOutsideRange() {
        CHECK.topic("promise 11, a good outside its range");
        eachRefused(ARGUMENT, "change(2, #, 1)", NO_GOODS);
        eachRefused(ARGUMENT, "change(2, #, 10)", NO_GOODS);
        CHECK.topic("promise 11, pieces outside 0 .. 9");
        eachRefused(ARGUMENT, "change(2, 4, #)", "-1", "10", "MIN", "MAX");
        CHECK.topic("promise 11, that before the state");
        for (String line : new String[] {"0, 0", "1, 0", "1, 4"}) {
            eachRefused(ARGUMENT, "change(" + line + ", #)", "-1", "10", "MIN", "MAX");
        }
        eachRefused(ARGUMENT, "change(0, #, 1)", NO_GOODS);
        eachRefused(ARGUMENT, "change(1, #, 1)", NO_GOODS);
        eachRefused(ARGUMENT, "change(3, #, 0)", NO_GOODS);
    }

    private static void changeNotAsItIsNow() {
        CHECK.topic("promise 11, the order is COMPLETE");
        eachRefused(STATE, "change(1, 4, #)", "0", "1", "2", "9");
        CHECK.topic("promise 11, COMPLETE, asked before more are in");
        refused(STATE, "change(1, 0, 0)");
        CHECK.topic("promise 11, the order is GONE");
        eachRefused(STATE, "change(0, 0, #)", "1", "9");
        CHECK.topic("promise 11, GONE, asked before more are in");
        refused(STATE, "change(0, 0, 0)");
        CHECK.topic("promise 11, n is 0, at the wall with no other line");
        refused(STATE, "change(3, 5, 0)");
        CHECK.topic("promise 11, that is asked before more are in");
        refused(STATE, "change(4, 6, 0)");
        CHECK.topic("promise 11, no other line any more");
        CHECK.changesNothing(Scene.MIXED.with("undo(2, 4)", "change(2, 4, 0)"), STATE,
                "change(2, 7, 0)");
    }

    private static void complete() {
        CHECK.topic("promise 12, an order that there is not");
        eachRefused(NO_ELEMENT, "complete(#)", NO_ORDERS);
        CHECK.topic("promise 12, the order is not at the wall");
        refused(STATE, "complete(0)", "complete(1)", "complete(5)", "complete(6)");
    }

    private static void release() {
        CHECK.topic("promise 13, a cell that there is not");
        eachRefused(INDEX, "release(#)", NO_CELLS);
        CHECK.topic("promise 13, the cell is free");
        refused(STATE, "release(0)", "release(5)");
        CHECK.changesNothing(Scene.MIXED.with("release(1)"), STATE, "release(1)");
    }

    private static void seed() {
        CHECK.topic("promise 15, a seed outside its range");
        eachRefused(ARGUMENT, "seed(#)", "-1", "-2147483647", "MIN");
    }

    private static void told() {
        CHECK.topic("promise 16, an order that there is not");
        eachRefused(NO_ELEMENT, "told(#, 0)", NO_ORDERS);
        CHECK.topic("promise 16, that before another what");
        eachRefused(NO_ELEMENT, "told(#, 6)", NO_ORDERS);
        CHECK.topic("promise 16, another what");
        for (String order : new String[] {"0", "1", "2", "5", "6"}) {
            eachRefused(ARGUMENT, "told(" + order + ", #)", "-1", "6", "MIN", "MAX");
        }
    }

    private static void piece() {
        CHECK.topic("promise 17, an order that there is not");
        eachRefused(NO_ELEMENT, "piece(#, 4, 0)", NO_ORDERS);
        CHECK.topic("promise 17, the order first");
        eachRefused(NO_ELEMENT, "piece(#, 10, 0)", NO_ORDERS);
        eachRefused(NO_ELEMENT, "piece(#, 4, 3)", NO_ORDERS);
        eachRefused(NO_ELEMENT, "piece(#, -1, -1)", NO_ORDERS);
        CHECK.topic("promise 17, another good, then");
        eachRefused(ARGUMENT, "piece(2, #, 0)", NO_GOODS);
        eachRefused(ARGUMENT, "piece(6, #, 0)", NO_GOODS);
        eachRefused(ARGUMENT, "piece(2, #, 3)", NO_GOODS);
        CHECK.topic("promise 17, no such line, then");
        eachRefused(NO_ELEMENT, "piece(2, 8, #)", "0", "1", "2");
        eachRefused(NO_ELEMENT, "piece(6, 4, #)", "0", "1", "2");
        eachRefused(NO_ELEMENT, "piece(2, 8, #)", "-1", "3", "MIN", "MAX");
        CHECK.topic("promise 17, another what at last");
        eachRefused(ARGUMENT, "piece(2, 4, #)", "-1", "3", "MIN", "MAX");
        eachRefused(ARGUMENT, "piece(0, 0, #)", "-1", "3");
    }

    private static void errors() {
        CHECK.topic("promise 18, a person outside its range");
        eachRefused(ARGUMENT, "errors(#)", NO_PERSONS);
    }

    private static void everyCellOfAWallWithoutCells() {
        CHECK.topic("promise 1, a wall without cells has no cell 0");
        Scene none = new Scene(0, "tote(0, 1)", "order()", "line(0, 0, 1)");
        for (String cell : new String[] {"0", "-1", "1", "MIN", "MAX"}) {
            CHECK.changesNothing(none, INDEX, "light(" + cell + ", false)",
                    "scan(" + cell + ", 0, 0)", "undo(" + cell + ", 0)", "release(" + cell + ")");
        }
    }
}
