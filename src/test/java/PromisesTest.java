import java.util.NoSuchElementException;

/** Each promise of the document with ordinary calls, its edges and its refusals. */
public final class PromisesTest {
    private static final Class<IllegalArgumentException> ARGUMENT = IllegalArgumentException.class;
    private static final Class<IllegalStateException> STATE = IllegalStateException.class;
    private static final Class<NoSuchElementException> NO_ELEMENT = NoSuchElementException.class;
    private static final Class<ArrayIndexOutOfBoundsException> INDEX =
            ArrayIndexOutOfBoundsException.class;
    private static final int[] NO_GOODS = {-1, 10, Integer.MIN_VALUE, Integer.MAX_VALUE};
    private static final int[] NO_PERSONS = {-1, 8, Integer.MIN_VALUE, Integer.MAX_VALUE};
    private static final int[] NO_DAYS = {-1, 10001, Integer.MIN_VALUE, Integer.MAX_VALUE};

    private static final Check CHECK = new Check();

    public static void main(String[] args) {
        newObject();
        tote();
        order();
        line();
        cell();
        light();
        scan();
        scanReasonsInTheirOrder();
        undo();
        miss();
        day();
        change();
        changeAtTheWall();
        complete();
        release();
        sample();
        seed();
        told();
        piece();
        errors();
        count();
        CHECK.end();
    }

    /** An order at the wall with a line of good 4 (two pieces) and one of good 7 (one piece). */
    private static PutWall wallWithOrder() {
        PutWall wall = new PutWall(3);
        wall.order();
        wall.line(0, 4, 2);
        wall.line(0, 7, 1);
        wall.cell(0);
        return wall;
    }

    /** Orders 0 .. n - 1, each COMPLETE in the cell of its number, with one piece of good 0. */
    private static PutWall wallOfComplete(int cells, int n) {
        PutWall wall = new PutWall(cells);
        for (int i = 0; i < n; i++) {
            addComplete(wall);
        }
        return wall;
    }

    private static void addComplete(PutWall wall) {
        wall.tote(0, 1);
        int order = wall.order();
        wall.line(order, 0, 1);
        wall.scan(wall.cell(order), 0, 0);
        wall.complete(order);
    }

    private static void newObject() {
        CHECK.topic("promise 1");
        int[][] madeWithAndCells = {{0, 0}, {-1, 0}, {Integer.MIN_VALUE, 0}, {1, 1}, {15, 15},
            {16, 16}, {17, 16}, {Integer.MAX_VALUE, 16}};
        for (int[] row : madeWithAndCells) {
            PutWall wall = new PutWall(row[0]);
            CHECK.due(row[1], "cells of new PutWall(" + row[0] + ")", () -> wall.count(0));
            CHECK.due(row[1], "free cells of new PutWall(" + row[0] + ")", () -> wall.count(2));
        }
        PutWall wall = new PutWall(4);
        for (int what : new int[] {1, 3, 4, 5}) {
            CHECK.due(0, "count(" + what + ") at first", () -> wall.count(what));
        }
        for (int i = 0; i < 4; i++) {
            int cell = i;
            CHECK.due(true, "the light at first", () -> wall.light(cell, true));
        }
        for (int i = 0; i < 8; i++) {
            int person = i;
            CHECK.due(0, "errors at first", () -> wall.errors(person));
        }
    }

    private static void tote() {
        CHECK.topic("promise 2");
        PutWall wall = new PutWall(1);
        CHECK.due(1, "tote(0, 1)", () -> wall.tote(0, 1));
        CHECK.due(101, "tote(0, 100)", () -> wall.tote(0, 100));
        CHECK.due(7, "tote(9, 7)", () -> wall.tote(9, 7));
        for (int good : NO_GOODS) {
            CHECK.refused(ARGUMENT, "tote of good " + good, () -> wall.tote(good, 1));
        }
        for (int n : new int[] {0, -1, 101, Integer.MIN_VALUE, Integer.MAX_VALUE}) {
            CHECK.refused(ARGUMENT, "tote of pieces " + n, () -> wall.tote(0, n));
        }
        CHECK.due(108, "pieces in totes", () -> wall.count(4));
    }

    private static void order() {
        CHECK.topic("promise 3");
        PutWall wall = new PutWall(0);
        for (int i = 0; i < 20; i++) {
            CHECK.due(i, "order()", wall::order);
        }
        CHECK.refused(UnsupportedOperationException.class, "a 21st order", wall::order);
        CHECK.due(20, "orders", () -> wall.count(1));
        CHECK.due(0, "the state of a new order", () -> wall.told(19, 0));
        CHECK.due(0, "the lines of a new order", () -> wall.told(19, 2));

        PutWall gone = wallOfComplete(1, 1);
        gone.release(0);
        CHECK.due(1, "an order behind one that is gone", gone::order);
    }

    private static void line() {
        CHECK.topic("promise 4");
        PutWall wall = new PutWall(1);
        CHECK.refused(NO_ELEMENT, "a line without an order", () -> wall.line(0, 0, 1));
        wall.order();
        CHECK.runs("line(0, 0, 1)", () -> wall.line(0, 0, 1));
        CHECK.runs("line(0, 9, 9)", () -> wall.line(0, 9, 9));
        CHECK.due(1, "what good 0 wants", () -> wall.piece(0, 0, 0));
        CHECK.due(9, "what good 9 wants", () -> wall.piece(0, 9, 0));
        CHECK.refused(STATE, "a second line of the good", () -> wall.line(0, 0, 2));
        CHECK.due(1, "what good 0 wants still", () -> wall.piece(0, 0, 0));
        for (int good : NO_GOODS) {
            CHECK.refused(ARGUMENT, "a line of good " + good, () -> wall.line(0, good, 1));
        }
        for (int n : new int[] {0, -1, 10, Integer.MIN_VALUE, Integer.MAX_VALUE}) {
            CHECK.refused(ARGUMENT, "a line of pieces " + n, () -> wall.line(0, 1, n));
            CHECK.refused(ARGUMENT, "a second line, pieces " + n, () -> wall.line(0, 0, n));
        }
        for (int order : new int[] {-1, 1, 20, Integer.MIN_VALUE, Integer.MAX_VALUE}) {
            CHECK.refused(NO_ELEMENT, "a line of order " + order, () -> wall.line(order, 99, 99));
        }
        wall.cell(0);
        CHECK.refused(STATE, "a line at the wall", () -> wall.line(0, 1, 1));
        CHECK.refused(ARGUMENT, "a line at the wall, pieces 0", () -> wall.line(0, 1, 0));

        PutWall complete = wallOfComplete(1, 1);
        CHECK.refused(STATE, "a line of a complete order", () -> complete.line(0, 1, 1));
        complete.release(0);
        CHECK.refused(STATE, "a line of an order that is gone", () -> complete.line(0, 1, 1));
    }

    private static void cell() {
        CHECK.topic("promise 5");
        PutWall wall = new PutWall(3);
        CHECK.refused(NO_ELEMENT, "cell(0) without orders", () -> wall.cell(0));
        for (int i = 0; i < 4; i++) {
            wall.order();
        }
        CHECK.refused(NO_ELEMENT, "cell(-1)", () -> wall.cell(-1));
        CHECK.refused(NO_ELEMENT, "cell(4)", () -> wall.cell(4));
        CHECK.refused(STATE, "an order without lines", () -> wall.cell(0));
        for (int i = 0; i < 4; i++) {
            wall.line(i, i, 1);
        }
        wall.light(0, false);
        CHECK.due(1, "the lowest cell whose light is on", () -> wall.cell(0));
        CHECK.due(1, "its state", () -> wall.told(0, 0));
        CHECK.refused(STATE, "an order at the wall", () -> wall.cell(0));
        CHECK.due(2, "the next cell", () -> wall.cell(1));
        CHECK.due(-1, "no cell", () -> wall.cell(2));
        CHECK.due(0, "the state without a cell", () -> wall.told(2, 0));
        CHECK.due(-1, "the cell of an open order", () -> wall.told(2, 1));
        wall.light(0, true);
        CHECK.due(0, "the cell whose light is on again", () -> wall.cell(2));
        CHECK.due(-1, "no cell in a full wall", () -> wall.cell(3));

        PutWall changed = new PutWall(1);
        changed.order();
        changed.line(0, 0, 1);
        changed.change(0, 0, 0);
        CHECK.refused(STATE, "an order whose lines are gone", () -> changed.cell(0));

        PutWall complete = wallOfComplete(1, 1);
        CHECK.refused(STATE, "a complete order", () -> complete.cell(0));
        complete.release(0);
        CHECK.refused(STATE, "an order that is gone", () -> complete.cell(0));
        addComplete(complete);
        CHECK.due(0, "a cell that got free", () -> complete.told(1, 1));
    }

    private static void light() {
        CHECK.topic("promise 6");
        PutWall wall = new PutWall(2);
        CHECK.due(true, "light(1, false)", () -> wall.light(1, false));
        CHECK.due(false, "light(1, false) again", () -> wall.light(1, false));
        CHECK.due(false, "light(1, true)", () -> wall.light(1, true));
        CHECK.due(true, "light(1, true) again", () -> wall.light(1, true));
        CHECK.due(true, "the other light", () -> wall.light(0, true));
        for (int cell : new int[] {-1, 2, 16, Integer.MIN_VALUE, Integer.MAX_VALUE}) {
            CHECK.refused(INDEX, "the light of cell " + cell, () -> wall.light(cell, true));
        }
    }

    private static void scan() {
        CHECK.topic("promise 7");
        PutWall wall = wallWithOrder();
        wall.tote(4, 3);
        CHECK.due(1, "a first piece", () -> wall.scan(0, 4, 0));
        CHECK.due(1, "a second piece", () -> wall.scan(0, 4, 7));
        CHECK.due(-4, "a third piece", () -> wall.scan(0, 4, 7));
        CHECK.due(2, "what is in", () -> wall.piece(0, 4, 1));
        CHECK.due(1, "what is in totes", () -> wall.count(4));
        CHECK.due(0, "no errors for a piece that is in", () -> wall.errors(0));
        CHECK.due(1, "an error for one that is not", () -> wall.errors(7));

        for (int cell : new int[] {-1, 3, Integer.MIN_VALUE, Integer.MAX_VALUE}) {
            CHECK.refused(INDEX, "cell " + cell, () -> wall.scan(cell, 99, 99));
        }
        for (int good : NO_GOODS) {
            CHECK.refused(ARGUMENT, "good " + good, () -> wall.scan(1, good, 7));
        }
        for (int person : NO_PERSONS) {
            CHECK.refused(ARGUMENT, "person " + person, () -> wall.scan(1, 4, person));
        }
        CHECK.due(1, "no error for what is refused", () -> wall.errors(7));

        wall.miss(0, 7, 0);
        wall.day(1);
        wall.tote(7, 1);
        CHECK.due(1, "a piece that was given up", () -> wall.scan(0, 7, 0));
    }

    private static void scanReasonsInTheirOrder() {
        CHECK.topic("promise 7, reasons");
        PutWall wall = wallWithOrder();
        wall.light(1, false);
        CHECK.due(-1, "a free cell whose light is off", () -> wall.scan(1, 4, 0));
        wall.light(0, false);
        CHECK.due(-2, "a light that is off, no line", () -> wall.scan(0, 5, 0));
        wall.light(0, true);
        CHECK.due(-3, "no line, none in totes", () -> wall.scan(0, 5, 0));
        CHECK.due(-5, "none in totes", () -> wall.scan(0, 4, 0));
        wall.tote(4, 2);
        wall.scan(0, 4, 0);
        wall.scan(0, 4, 0);
        CHECK.due(-4, "all in, none in totes", () -> wall.scan(0, 4, 0));
        wall.tote(7, 1);
        wall.miss(0, 7, 0);
        wall.day(1);
        wall.complete(0);
        CHECK.due(-4, "a complete order, one given up", () -> wall.scan(0, 7, 0));
        CHECK.due(-3, "a complete order, no line", () -> wall.scan(0, 5, 0));
        CHECK.due(7, "an error each", () -> wall.errors(0));
        CHECK.due(1, "the piece is in its tote still", () -> wall.count(4));
        CHECK.due(2, "nothing more is in", () -> wall.told(0, 3));
    }

    private static void undo() {
        CHECK.topic("promise 8");
        PutWall wall = wallWithOrder();
        wall.tote(4, 2);
        wall.tote(7, 1);
        CHECK.refused(STATE, "none is in", () -> wall.undo(0, 4));
        wall.scan(0, 4, 0);
        wall.scan(0, 4, 0);
        wall.scan(0, 7, 0);
        wall.light(0, false);
        CHECK.due(1, "undo(0, 4), the light off", () -> wall.undo(0, 4));
        CHECK.due(1, "the piece is in its tote", () -> wall.count(4));
        CHECK.due(2, "the others are in", () -> wall.told(0, 3));
        CHECK.due(0, "undo(0, 4) again", () -> wall.undo(0, 4));
        CHECK.refused(STATE, "none is in any more", () -> wall.undo(0, 4));
        CHECK.refused(STATE, "no line of the good", () -> wall.undo(0, 5));
        CHECK.refused(STATE, "a free cell", () -> wall.undo(1, 4));
        for (int good : NO_GOODS) {
            CHECK.refused(ARGUMENT, "good " + good, () -> wall.undo(1, good));
        }
        for (int cell : new int[] {-1, 3, Integer.MIN_VALUE, Integer.MAX_VALUE}) {
            CHECK.refused(INDEX, "cell " + cell, () -> wall.undo(cell, 99));
        }
        wall.light(0, true);
        CHECK.due(3, "tote(4, 1) behind undoing", () -> wall.tote(4, 1));
        CHECK.due(1, "scanned in again", () -> wall.scan(0, 4, 0));

        PutWall complete = wallOfComplete(1, 1);
        CHECK.refused(STATE, "a complete order", () -> complete.undo(0, 0));
    }

    private static void miss() {
        CHECK.topic("promise 9");
        PutWall wall = wallWithOrder();
        CHECK.due(2, "miss(0, 4, 6)", () -> wall.miss(0, 4, 6));
        CHECK.due(6, "the day", () -> wall.piece(0, 4, 2));
        CHECK.due(-1, "the day of the other line", () -> wall.piece(0, 7, 2));
        wall.tote(4, 2);
        wall.scan(0, 4, 0);
        CHECK.due(1, "another day", () -> wall.miss(0, 4, 10000));
        CHECK.due(10000, "the day that is told instead", () -> wall.piece(0, 4, 2));
        wall.day(3);
        CHECK.due(1, "a day that is over", () -> wall.miss(0, 4, 2));
        CHECK.due(1, "given up at once", () -> wall.told(0, 5));
        CHECK.due(1, "a later day behind one that is over", () -> wall.miss(0, 4, 3));
        CHECK.due(0, "not given up any more", () -> wall.told(0, 5));
        wall.scan(0, 4, 0);
        CHECK.refused(STATE, "nothing is missing", () -> wall.miss(0, 4, 5));
        CHECK.due(3, "the day stays", () -> wall.piece(0, 4, 2));

        CHECK.refused(NO_ELEMENT, "no order", () -> wall.miss(1, 99, 99999));
        CHECK.refused(NO_ELEMENT, "order -1", () -> wall.miss(-1, 4, 1));
        CHECK.refused(NO_ELEMENT, "no line, no day", () -> wall.miss(0, 5, 10001));
        for (int good : NO_GOODS) {
            CHECK.refused(ARGUMENT, "good " + good, () -> wall.miss(0, good, 5));
        }
        for (int day : NO_DAYS) {
            CHECK.refused(ARGUMENT, "day " + day, () -> wall.miss(0, 4, day));
        }
        wall.miss(0, 7, 2);
        wall.complete(0);
        CHECK.refused(STATE, "a complete order", () -> wall.miss(0, 7, 9));
        wall.release(0);
        CHECK.refused(STATE, "an order that is gone", () -> wall.miss(0, 7, 9));
        wall.order();
        wall.line(1, 4, 1);
        CHECK.refused(STATE, "an open order", () -> wall.miss(1, 4, 9));
    }

    private static void day() {
        CHECK.topic("promise 10");
        PutWall wall = new PutWall(1);
        CHECK.runs("day(0)", () -> wall.day(0));
        CHECK.runs("day(5)", () -> wall.day(5));
        CHECK.due(5, "today", () -> wall.count(5));
        CHECK.runs("day(5) again", () -> wall.day(5));
        CHECK.refused(STATE, "day(4)", () -> wall.day(4));
        CHECK.due(5, "today still", () -> wall.count(5));
        CHECK.runs("day(10000)", () -> wall.day(10000));
        for (int day : NO_DAYS) {
            CHECK.refused(ARGUMENT, "day " + day, () -> wall.day(day));
        }
        CHECK.refused(STATE, "day(9999)", () -> wall.day(9999));
        CHECK.due(10000, "the last day", () -> wall.count(5));
    }

    private static void change() {
        CHECK.topic("promise 11");
        PutWall wall = new PutWall(1);
        wall.order();
        wall.line(0, 0, 3);
        wall.line(0, 9, 1);
        CHECK.due(true, "change(0, 0, 9)", () -> wall.change(0, 0, 9));
        CHECK.due(9, "what it wants", () -> wall.piece(0, 0, 0));
        CHECK.due(true, "change(0, 0, 0)", () -> wall.change(0, 0, 0));
        CHECK.due(1, "the lines", () -> wall.told(0, 2));
        CHECK.refused(NO_ELEMENT, "the line that it has not", () -> wall.change(0, 0, 1));
        CHECK.due(true, "an open order's last line", () -> wall.change(0, 9, 0));
        CHECK.runs("a line of the good again", () -> wall.line(0, 0, 2));
        CHECK.due(2, "what it wants now", () -> wall.told(0, 4));

        CHECK.refused(NO_ELEMENT, "no order", () -> wall.change(1, 99, 99));
        CHECK.refused(NO_ELEMENT, "order -1", () -> wall.change(-1, 0, 1));
        CHECK.refused(NO_ELEMENT, "no line, 10 pieces", () -> wall.change(0, 5, 10));
        for (int good : NO_GOODS) {
            CHECK.refused(ARGUMENT, "good " + good, () -> wall.change(0, good, 1));
        }
        for (int n : new int[] {-1, 10, Integer.MIN_VALUE, Integer.MAX_VALUE}) {
            CHECK.refused(ARGUMENT, "pieces " + n, () -> wall.change(0, 0, n));
        }

        PutWall complete = wallOfComplete(1, 1);
        CHECK.refused(ARGUMENT, "a complete order, 10 pieces", () -> complete.change(0, 0, 10));
        CHECK.refused(STATE, "a complete order", () -> complete.change(0, 0, 1));
        complete.release(0);
        CHECK.refused(STATE, "an order that is gone", () -> complete.change(0, 0, 1));
        CHECK.refused(NO_ELEMENT, "one that is gone, no line", () -> complete.change(0, 1, 1));
    }

    private static void changeAtTheWall() {
        CHECK.topic("promise 11, at the wall");
        PutWall wall = wallWithOrder();
        wall.tote(4, 9);
        wall.scan(0, 4, 0);
        wall.scan(0, 4, 0);
        CHECK.due(false, "less than is in", () -> wall.change(0, 4, 1));
        CHECK.due(false, "0, and pieces are in", () -> wall.change(0, 4, 0));
        CHECK.due(2, "nothing changed", () -> wall.piece(0, 4, 0));
        CHECK.due(true, "just what is in", () -> wall.change(0, 4, 2));
        CHECK.due(true, "more", () -> wall.change(0, 4, 4));
        CHECK.due(1, "one more is wanted", () -> wall.scan(0, 4, 0));
        wall.miss(0, 4, 0);
        wall.day(1);
        CHECK.due(true, "more of a line whose day is over", () -> wall.change(0, 4, 6));
        CHECK.due(0, "the day stays", () -> wall.piece(0, 4, 2));
        CHECK.due(3, "given up, what is not in", () -> wall.told(0, 5));
        wall.miss(0, 7, 0);
        CHECK.due(true, "a line less", () -> wall.change(0, 7, 0));
        CHECK.due(3, "given up without that line", () -> wall.told(0, 5));
        CHECK.due(-3, "a scan of the line that is no more", () -> wall.scan(0, 7, 0));
        CHECK.refused(STATE, "the last line, pieces in", () -> wall.change(0, 4, 0));
        CHECK.due(false, "less than is in, the last line", () -> wall.change(0, 4, 1));
        wall.undo(0, 4);
        wall.undo(0, 4);
        wall.undo(0, 4);
        CHECK.refused(STATE, "the last line, no pieces in", () -> wall.change(0, 4, 0));
    }

    private static void complete() {
        CHECK.topic("promise 12");
        PutWall wall = wallWithOrder();
        CHECK.refused(NO_ELEMENT, "complete(1)", () -> wall.complete(1));
        CHECK.refused(NO_ELEMENT, "complete(-1)", () -> wall.complete(-1));
        CHECK.due(false, "nothing is in", () -> wall.complete(0));
        wall.tote(4, 2);
        wall.scan(0, 4, 0);
        wall.scan(0, 4, 0);
        CHECK.due(false, "one is missing", () -> wall.complete(0));
        wall.miss(0, 7, 5);
        wall.day(5);
        CHECK.due(false, "on the day itself", () -> wall.complete(0));
        CHECK.due(1, "at the wall still", () -> wall.told(0, 0));
        wall.day(6);
        wall.undo(0, 4);
        CHECK.due(false, "one given up, another missing", () -> wall.complete(0));
        wall.scan(0, 4, 0);
        wall.light(0, false);
        CHECK.due(true, "all in or given up", () -> wall.complete(0));
        CHECK.due(2, "complete", () -> wall.told(0, 0));
        CHECK.due(0, "in its cell still", () -> wall.told(0, 1));
        CHECK.refused(STATE, "a complete order", () -> wall.complete(0));
        wall.release(0);
        CHECK.refused(STATE, "an order that is gone", () -> wall.complete(0));
        wall.order();
        CHECK.refused(STATE, "an open order", () -> wall.complete(1));

        PutWall without = wallWithOrder();
        without.miss(0, 4, 0);
        without.miss(0, 7, 0);
        without.day(1);
        CHECK.due(true, "all given up", () -> without.complete(0));
    }

    private static void release() {
        CHECK.topic("promise 13");
        PutWall wall = wallWithOrder();
        CHECK.refused(STATE, "a free cell", () -> wall.release(1));
        for (int cell : new int[] {-1, 3, 16, Integer.MIN_VALUE, Integer.MAX_VALUE}) {
            CHECK.refused(INDEX, "cell " + cell, () -> wall.release(cell));
        }
        CHECK.due(false, "an order at the wall", () -> wall.release(0));
        CHECK.due(2, "the cell is not free", () -> wall.count(2));
        wall.miss(0, 4, 0);
        wall.tote(7, 1);
        wall.scan(0, 7, 0);
        wall.day(1);
        wall.complete(0);
        wall.light(0, false);
        CHECK.due(true, "a complete order, the light off", () -> wall.release(0));
        CHECK.due(3, "gone", () -> wall.told(0, 0));
        CHECK.due(-1, "without a cell", () -> wall.told(0, 1));
        CHECK.due(3, "the cell is free", () -> wall.count(2));
        CHECK.due(0, "no piece in cells", () -> wall.count(3));
        CHECK.due(0, "no piece back in totes", () -> wall.count(4));
        CHECK.refused(STATE, "a cell that is free again", () -> wall.release(0));
        CHECK.due(false, "its light stays off", () -> wall.light(0, false));
    }

    private static void sample() {
        CHECK.topic("promise 14");
        PutWall none = wallWithOrder();
        CHECK.due(-1, "no complete order", none::sample);

        // From 1 the seed becomes 1103527590, 377401575, 662824084, 1147902781, 2035015474:
        // by 65536 these are 16838, 5758, 10113, 17515, 31051.
        PutWall three = wallOfComplete(4, 3);
        int[] dueOfThree = {16838 % 3, 5758 % 3, 10113 % 3, 17515 % 3, 31051 % 3};
        for (int due : dueOfThree) {
            CHECK.due(due, "sample() of three", three::sample);
        }

        // Cells 0 .. 3 hold the orders 4, 1, (at the wall) 5, 3.
        PutWall moved = wallOfComplete(4, 4);
        moved.release(0);
        addComplete(moved);
        moved.release(2);
        moved.order();
        moved.line(5, 0, 1);
        moved.cell(5);
        int[] byCell = {4, 1, 3};
        for (int due : dueOfThree) {
            CHECK.due(byCell[due], "sample() by cells", moved::sample);
        }

        PutWall stays = wallOfComplete(1, 1);
        stays.release(0);
        CHECK.due(-1, "sample() of none", stays::sample);
        PutWall fresh = new PutWall(7);
        CHECK.due(-1, "sample() of a new wall", fresh::sample);
        for (int i = 0; i < 7; i++) {
            addComplete(fresh);
        }
        CHECK.due(16838 % 7, "the seed stayed", fresh::sample);
    }

    private static void seed() {
        CHECK.topic("promise 15");
        PutWall wall = wallOfComplete(16, 16);
        long[] seeds = {0, 1, 2, 77, 65536, 2147483646, 2147483647};
        for (long x : seeds) {
            long next = x;
            CHECK.runs("seed(" + x + ")", () -> wall.seed((int) x));
            for (int i = 0; i < 5; i++) {
                next = (next * 1103515245L + 12345L) % 2147483648L;
                int due = (int) (next / 65536 % 16);
                CHECK.due(due, "a sample behind seed(" + x + ")", wall::sample);
            }
        }
        wall.seed(1);
        CHECK.refused(ARGUMENT, "seed(-1)", () -> wall.seed(-1));
        CHECK.refused(ARGUMENT, "the least int", () -> wall.seed(Integer.MIN_VALUE));
        CHECK.due(16838 % 16, "the seed before those", wall::sample);
    }

    private static void allTold(PutWall wall, int order, int... due) {
        for (int i = 0; i < due.length; i++) {
            int what = i;
            CHECK.due(due[i], "told(" + order + ", " + i + ")", () -> wall.told(order, what));
        }
    }

    private static void told() {
        CHECK.topic("promise 16");
        PutWall wall = new PutWall(2);
        wall.order();
        allTold(wall, 0, 0, -1, 0, 0, 0, 0);
        wall.line(0, 1, 3);
        wall.line(0, 2, 4);
        allTold(wall, 0, 0, -1, 2, 0, 7, 0);
        wall.light(0, false);
        wall.cell(0);
        wall.tote(1, 5);
        wall.scan(1, 1, 0);
        wall.miss(0, 1, 2);
        wall.miss(0, 2, 3);
        wall.day(2);
        allTold(wall, 0, 1, 1, 2, 1, 7, 0);
        wall.day(3);
        allTold(wall, 0, 1, 1, 2, 1, 7, 2);
        wall.day(4);
        allTold(wall, 0, 1, 1, 2, 1, 7, 6);
        wall.scan(1, 1, 0);
        allTold(wall, 0, 1, 1, 2, 2, 7, 5);
        wall.complete(0);
        allTold(wall, 0, 2, 1, 2, 2, 7, 5);
        wall.release(1);
        allTold(wall, 0, 3, -1, 2, 2, 7, 5);
        for (int order : new int[] {-1, 1, 20, Integer.MIN_VALUE, Integer.MAX_VALUE}) {
            CHECK.refused(NO_ELEMENT, "told of order " + order, () -> wall.told(order, 99));
        }
        for (int what : new int[] {-1, 6, Integer.MIN_VALUE, Integer.MAX_VALUE}) {
            CHECK.refused(ARGUMENT, "told of what " + what, () -> wall.told(0, what));
        }
    }

    private static void piece() {
        CHECK.topic("promise 17");
        PutWall wall = wallWithOrder();
        wall.tote(4, 1);
        wall.scan(0, 4, 0);
        wall.miss(0, 4, 8);
        CHECK.due(2, "piece(0, 4, 0)", () -> wall.piece(0, 4, 0));
        CHECK.due(1, "piece(0, 4, 1)", () -> wall.piece(0, 4, 1));
        CHECK.due(8, "piece(0, 4, 2)", () -> wall.piece(0, 4, 2));
        CHECK.due(1, "piece(0, 7, 0)", () -> wall.piece(0, 7, 0));
        CHECK.due(0, "piece(0, 7, 1)", () -> wall.piece(0, 7, 1));
        CHECK.due(-1, "piece(0, 7, 2)", () -> wall.piece(0, 7, 2));
        for (int order : new int[] {-1, 1, 20, Integer.MIN_VALUE, Integer.MAX_VALUE}) {
            CHECK.refused(NO_ELEMENT, "order " + order, () -> wall.piece(order, 99, 99));
        }
        for (int good : NO_GOODS) {
            CHECK.refused(ARGUMENT, "good " + good, () -> wall.piece(0, good, 0));
        }
        CHECK.refused(NO_ELEMENT, "no line, no what", () -> wall.piece(0, 5, 3));
        for (int what : new int[] {-1, 3, Integer.MIN_VALUE, Integer.MAX_VALUE}) {
            CHECK.refused(ARGUMENT, "what " + what, () -> wall.piece(0, 4, what));
        }
    }

    private static void errors() {
        CHECK.topic("promise 18");
        PutWall wall = new PutWall(1);
        for (int i = 0; i < 8; i++) {
            for (int k = 0; k <= i; k++) {
                wall.scan(0, 0, i);
            }
        }
        for (int i = 0; i < 8; i++) {
            int person = i;
            CHECK.due(i + 1, "errors(" + i + ")", () -> wall.errors(person));
        }
        for (int person : NO_PERSONS) {
            CHECK.refused(ARGUMENT, "errors(" + person + ")", () -> wall.errors(person));
        }
    }

    private static void allCounts(PutWall wall, int... due) {
        for (int i = 0; i < due.length; i++) {
            int what = i;
            CHECK.due(due[i], "count(" + i + ")", () -> wall.count(what));
        }
    }

    private static void count() {
        CHECK.topic("promise 19");
        PutWall wall = wallWithOrder();
        wall.tote(4, 5);
        wall.tote(9, 2);
        wall.day(3);
        allCounts(wall, 3, 1, 2, 0, 7, 3);
        wall.scan(0, 4, 0);
        wall.scan(0, 4, 0);
        allCounts(wall, 3, 1, 2, 2, 5, 3);
        addComplete(wall);
        allCounts(wall, 3, 2, 1, 3, 5, 3);
        wall.release(1);
        wall.light(2, false);
        allCounts(wall, 3, 2, 2, 2, 5, 3);
        for (int what : new int[] {-1, 6, Integer.MIN_VALUE, Integer.MAX_VALUE}) {
            CHECK.due(-1, "count(" + what + ")", () -> wall.count(what));
        }
    }
}
