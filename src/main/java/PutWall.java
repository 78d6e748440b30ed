import java.util.Arrays;
import java.util.NoSuchElementException;

/** A put wall: orders of a batch are filled, piece by piece, in cells with lights. */
public final class PutWall {
    private static final int MOST_CELLS = 16;
    private static final int MOST_ORDERS = 20;
    private static final int GOODS = 10;
    private static final int PERSONS = 8;
    private static final int LAST_DAY = 10000;
    private static final int MOST_WANTED = 9;
    private static final int MOST_PIECES_COMING = 100;

    private static final int OPEN = 0;
    private static final int WALL = 1;
    private static final int COMPLETE = 2;
    private static final int GONE = 3;

    private static final int NONE = -1;

    private static final int PIECE_IS_IN = 1;
    private static final int CELL_IS_FREE = -1;
    private static final int LIGHT_IS_OFF = -2;
    private static final int NO_LINE_OF_GOOD = -3;
    private static final int NO_MORE_WANTED = -4;
    private static final int NONE_IN_TOTES = -5;

    private static final long SEED_FACTOR = 1103515245L;
    private static final long SEED_STEP = 12345L;
    private static final long SEED_MODULUS = 2147483648L;
    private static final int SEED_LOW_PART = 65536;
    private static final int LAST_SEED = 2147483647;

    /** An order with its lines, one a good; its methods take goods that are in their range. */
    private static final class Order {
        final int number;
        int state = OPEN;
        int place = NONE;
        // A line wants at least one piece, so 0 stands for "no line of this good"; the day of a
        // line that was taken away may stay, as only an OPEN order, which has no days, gets lines.
        final int[] wanted = new int[GOODS];
        final int[] present = new int[GOODS];
        final int[] deadline = new int[GOODS];

        Order(int number) {
            this.number = number;
            Arrays.fill(deadline, NONE);
        }

        boolean hasLine(int good) {
            return wanted[good] > 0;
        }

        int missing(int good) {
            return wanted[good] - present[good];
        }

        int givenUp(int good, int today) {
            return deadline[good] != NONE && today > deadline[good] ? missing(good) : 0;
        }

        int lineCount() {
            int lines = 0;
            for (int good = 0; good < GOODS; good++) {
                if (hasLine(good)) {
                    lines++;
                }
            }
            return lines;
        }

        int allGivenUp(int today) {
            int pieces = 0;
            for (int good = 0; good < GOODS; good++) {
                pieces += givenUp(good, today);
            }
            return pieces;
        }

        int allWanted() {
            return sum(wanted);
        }

        int allPresent() {
            return sum(present);
        }

        boolean lacksNothing(int today) {
            for (int good = 0; good < GOODS; good++) {
                if (missing(good) > givenUp(good, today)) {
                    return false;
                }
            }
            return true;
        }
    }

    private final Order[] orders = new Order[MOST_ORDERS];
    private int orderCount = 0;
    // The order in each cell; null where the cell is free.
    private final Order[] occupants;
    // Kept as "dark", since all lights are on at first and a new array is all false.
    private final boolean[] dark;
    private final int[] inTotes = new int[GOODS];
    private final int[] errorsOf = new int[PERSONS];
    private int today = 0;
    private int seedNow = 1;

    public PutWall(int cells) {
        int size = Math.max(0, Math.min(MOST_CELLS, cells));
        occupants = new Order[size];
        dark = new boolean[size];
    }

    public int tote(int good, int n) throws IllegalArgumentException {
        requireGood(good);
        requireRange(n, 1, MOST_PIECES_COMING);
        inTotes[good] += n;
        return inTotes[good];
    }

    public int order() throws UnsupportedOperationException {
        if (orderCount >= MOST_ORDERS) {
            throw new UnsupportedOperationException("no room for another order");
        }
        int number = orderCount;
        orders[number] = new Order(number);
        orderCount++;
        return number;
    }

    public void line(int order, int good, int n)
            throws NoSuchElementException, IllegalArgumentException, IllegalStateException {
        Order asked = existing(order);
        requireGood(good);
        requireRange(n, 1, MOST_WANTED);
        requireState(asked.state == OPEN && !asked.hasLine(good));
        asked.wanted[good] = n;
    }

    public int cell(int order) throws NoSuchElementException, IllegalStateException {
        Order asked = existing(order);
        requireState(asked.state == OPEN && asked.lineCount() > 0);
        int place = lowestUsableCell();
        if (place >= 0 && place < occupants.length) {
            occupants[place] = asked;
            asked.place = place;
            asked.state = WALL;
        }
        return place;
    }

    public boolean light(int cell, boolean on) throws ArrayIndexOutOfBoundsException {
        requireCell(cell);
        boolean wasOn = !dark[cell];
        dark[cell] = !on;
        return wasOn;
    }

    public int scan(int cell, int good, int person)
            throws ArrayIndexOutOfBoundsException, IllegalArgumentException {
        requireCell(cell);
        requireGood(good);
        requirePerson(person);
        int answer = put(occupants[cell], dark[cell], good);
        if (answer < 0) {
            errorsOf[person]++;
        }
        return answer;
    }

    public int undo(int cell, int good)
            throws ArrayIndexOutOfBoundsException, IllegalArgumentException, IllegalStateException {
        requireCell(cell);
        requireGood(good);
        Order held = occupants[cell];
        if (held == null || held.state == COMPLETE || held.present[good] == 0) {
            throw new IllegalStateException("nothing to undo");
        }
        held.present[good]--;
        inTotes[good]++;
        return held.present[good];
    }

    public int miss(int order, int good, int day)
            throws NoSuchElementException, IllegalArgumentException, IllegalStateException {
        Order asked = existing(order);
        requireLine(asked, good);
        requireRange(day, 0, LAST_DAY);
        requireState(asked.state == WALL && asked.missing(good) > 0);
        asked.deadline[good] = day;
        return asked.missing(good);
    }

    public void day(int day) throws IllegalArgumentException, IllegalStateException {
        requireRange(day, 0, LAST_DAY);
        requireState(day >= today);
        today = day;
    }

    public boolean change(int order, int good, int n)
            throws NoSuchElementException, IllegalArgumentException, IllegalStateException {
        Order asked = existing(order);
        requireLine(asked, good);
        requireRange(n, 0, MOST_WANTED);
        boolean takesLastLineAtWall = n == 0 && asked.state == WALL && asked.lineCount() == 1;
        requireState((asked.state == OPEN || asked.state == WALL) && !takesLastLineAtWall);
        if (asked.present[good] > n) {
            return false;
        }
        asked.wanted[good] = n;
        return true;
    }

    public boolean complete(int order) throws NoSuchElementException, IllegalStateException {
        Order asked = existing(order);
        requireState(asked.state == WALL);
        if (!asked.lacksNothing(today)) {
            return false;
        }
        asked.state = COMPLETE;
        return true;
    }

    public boolean release(int cell) throws ArrayIndexOutOfBoundsException, IllegalStateException {
        requireCell(cell);
        Order held = occupants[cell];
        if (held == null) {
            throw new IllegalStateException("the cell is free");
        }
        if (held.state != COMPLETE) {
            return false;
        }
        held.state = GONE;
        held.place = NONE;
        occupants[cell] = null;
        return true;
    }

    public int sample() {
        int completeOrders = completeCount();
        if (completeOrders == 0) {
            return NONE;
        }
        // The modulus keeps the seed within int; only the product needs a long.
        seedNow = (int) ((seedNow * SEED_FACTOR + SEED_STEP) % SEED_MODULUS);
        return completeByCell(seedNow / SEED_LOW_PART % completeOrders);
    }

    public void seed(int x) throws IllegalArgumentException {
        requireRange(x, 0, LAST_SEED);
        seedNow = x;
    }

    public int told(int order, int what) throws NoSuchElementException, IllegalArgumentException {
        Order asked = existing(order);
        switch (what) {
            case 0:
                return asked.state;
            case 1:
                return asked.place;
            case 2:
                return asked.lineCount();
            case 3:
                return asked.allPresent();
            case 4:
                return asked.allWanted();
            case 5:
                return asked.allGivenUp(today);
            default:
                throw new IllegalArgumentException("nothing of that kind is told of an order");
        }
    }

    public int piece(int order, int good, int what)
            throws NoSuchElementException, IllegalArgumentException {
        Order asked = existing(order);
        requireLine(asked, good);
        switch (what) {
            case 0:
                return asked.wanted[good];
            case 1:
                return asked.present[good];
            case 2:
                return asked.deadline[good];
            default:
                throw new IllegalArgumentException("nothing of that kind is told of a line");
        }
    }

    public int errors(int person) throws IllegalArgumentException {
        requirePerson(person);
        return errorsOf[person];
    }

    public int count(int what) {
        switch (what) {
            case 0:
                return occupants.length;
            case 1:
                return orderCount;
            case 2:
                return freeCells();
            case 3:
                return piecesInCells();
            case 4:
                return sum(inTotes);
            case 5:
                return today;
            default:
                return NONE;
        }
    }

    private Order existing(int order) {
        if (order < 0 || order >= orderCount || order >= orders.length) {
            throw new NoSuchElementException("no such order");
        }
        Order found = orders[order];
        if (found == null) {
            throw new NoSuchElementException("no such order");
        }
        return found;
    }

    private void requireCell(int cell) {
        if (cell < 0 || cell >= occupants.length) {
            throw new ArrayIndexOutOfBoundsException("no such cell");
        }
    }

    private static void requireRange(int number, int least, int most) {
        if (number < least || number > most) {
            throw new IllegalArgumentException("a number outside its range");
        }
    }

    private static void requireGood(int good) {
        requireRange(good, 0, GOODS - 1);
    }

    private static void requirePerson(int person) {
        requireRange(person, 0, PERSONS - 1);
    }

    private static void requireLine(Order asked, int good) {
        requireGood(good);
        if (!asked.hasLine(good)) {
            throw new NoSuchElementException("no line of this good");
        }
    }

    private static void requireState(boolean fits) {
        if (!fits) {
            throw new IllegalStateException("not as it is now");
        }
    }

    private int lowestUsableCell() {
        for (int i = 0; i < occupants.length; i++) {
            if (occupants[i] == null && !dark[i]) {
                return i;
            }
        }
        return NONE;
    }

    private int put(Order held, boolean isDark, int good) {
        if (held == null) {
            return CELL_IS_FREE;
        }
        if (isDark) {
            return LIGHT_IS_OFF;
        }
        if (!held.hasLine(good)) {
            return NO_LINE_OF_GOOD;
        }
        if (held.missing(good) == 0 || held.state == COMPLETE) {
            return NO_MORE_WANTED;
        }
        if (inTotes[good] == 0) {
            return NONE_IN_TOTES;
        }
        inTotes[good]--;
        held.present[good]++;
        return PIECE_IS_IN;
    }

    private int completeCount() {
        int found = 0;
        for (int i = 0; i < occupants.length; i++) {
            Order held = occupants[i];
            if (held != null && held.state == COMPLETE) {
                found++;
            }
        }
        return found;
    }

    private int completeByCell(int index) {
        int before = 0;
        for (int i = 0; i < occupants.length; i++) {
            Order held = occupants[i];
            if (held != null && held.state == COMPLETE) {
                if (before == index) {
                    return held.number;
                }
                before++;
            }
        }
        return NONE;
    }

    private int freeCells() {
        int free = 0;
        for (int i = 0; i < occupants.length; i++) {
            if (occupants[i] == null) {
                free++;
            }
        }
        return free;
    }

    private int piecesInCells() {
        int pieces = 0;
        for (int i = 0; i < occupants.length; i++) {
            Order held = occupants[i];
            if (held != null) {
                pieces += held.allPresent();
            }
        }
        return pieces;
    }

    private static int sum(int[] numbers) {
        int total = 0;
        for (int i = 0; i < numbers.length; i++) {
            total += numbers[i];
        }
        return total;
    }
}
