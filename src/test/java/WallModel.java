import java.util.ArrayList;
import java.util.List;
import java.util.NoSuchElementException;
import java.util.TreeMap;

/**
 * The document's words once more, in another shape than the class: every piece is an object that
 * knows where it is, and nothing is counted before it is asked for.
 */
final class WallModel {
    private static final class Piece {
        final int good;
        OrderModel order;

        Piece(int good) {
            this.good = good;
        }
    }

    private static final class LineModel {
        int wants;
        Integer day;
    }

    private static final class OrderModel {
        int state;
        final TreeMap<Integer, LineModel> lines = new TreeMap<>();
    }

    private final int cells;
    private final List<Piece> pieces = new ArrayList<>();
    private final List<OrderModel> orders = new ArrayList<>();
    private final TreeMap<Integer, OrderModel> taken = new TreeMap<>();
    private final List<Integer> lightsOff = new ArrayList<>();
    private final List<Integer> errors = new ArrayList<>();
    private int today = 0;
    private long seed = 1;

    WallModel(int cells) {
        this.cells = cells < 0 ? 0 : cells > 16 ? 16 : cells;
    }

    /** The answer of a call, null for a method without one, or the class of what it throws. */
    Object answer(String name, Object[] arguments) {
        int[] a = new int[3];
        for (int i = 0; i < arguments.length; i++) {
            a[i] = arguments[i] instanceof Boolean on ? (on ? 1 : 0) : (Integer) arguments[i];
        }
        try {
            return switch (name) {
                case "tote" -> tote(a[0], a[1]);
                case "order" -> order();
                case "line" -> line(a[0], a[1], a[2]);
                case "cell" -> cell(a[0]);
                case "light" -> light(a[0], a[1] == 1);
                case "scan" -> scan(a[0], a[1], a[2]);
                case "undo" -> undo(a[0], a[1]);
                case "miss" -> miss(a[0], a[1], a[2]);
                case "day" -> day(a[0]);
                case "change" -> change(a[0], a[1], a[2]);
                case "complete" -> complete(a[0]);
                case "release" -> release(a[0]);
                case "sample" -> sample();
                case "seed" -> seed(a[0]);
                case "told" -> told(a[0], a[1]);
                case "piece" -> piece(a[0], a[1], a[2]);
                case "errors" -> errors(a[0]);
                case "count" -> count(a[0]);
                default -> throw new AssertionError(name);
            };
        } catch (RuntimeException e) {
            return e.getClass();
        }
    }

    private static boolean outside(int number, int least, int most) {
        return number < least || number > most;
    }

    private static void argumentIf(boolean wrong) {
        if (wrong) {
            throw new IllegalArgumentException();
        }
    }

    private static void stateIf(boolean wrong) {
        if (wrong) {
            throw new IllegalStateException();
        }
    }

    private void cellThere(int cell) {
        if (outside(cell, 0, cells - 1)) {
            throw new ArrayIndexOutOfBoundsException();
        }
    }

    private OrderModel orderThere(int order) {
        if (outside(order, 0, orders.size() - 1)) {
            throw new NoSuchElementException();
        }
        return orders.get(order);
    }

    private LineModel lineThere(int order, int good) {
        OrderModel asked = orderThere(order);
        argumentIf(outside(good, 0, 9));
        if (!asked.lines.containsKey(good)) {
            throw new NoSuchElementException();
        }
        return asked.lines.get(good);
    }

    private List<Piece> piecesOf(OrderModel order, int good) {
        return pieces.stream().filter(p -> p.order == order && p.good == good).toList();
    }

    private int missing(OrderModel order, int good) {
        return order.lines.get(good).wants - piecesOf(order, good).size();
    }

    private boolean isOver(LineModel line) {
        return line.day != null && today > line.day;
    }

    private Object tote(int good, int n) {
        argumentIf(outside(good, 0, 9) || outside(n, 1, 100));
        for (int i = 0; i < n; i++) {
            pieces.add(new Piece(good));
        }
        return piecesOf(null, good).size();
    }

    private Object order() {
        if (orders.size() == 20) {
            throw new UnsupportedOperationException();
        }
        orders.add(new OrderModel());
        return orders.size() - 1;
    }

    private Object line(int order, int good, int n) {
        OrderModel asked = orderThere(order);
        argumentIf(outside(good, 0, 9) || outside(n, 1, 9));
        stateIf(asked.state != 0 || asked.lines.containsKey(good));
        LineModel line = new LineModel();
        line.wants = n;
        asked.lines.put(good, line);
        return null;
    }

    private Object cell(int order) {
        OrderModel asked = orderThere(order);
        stateIf(asked.state != 0 || asked.lines.isEmpty());
        for (int cell = 0; cell < cells; cell++) {
            if (!taken.containsKey(cell) && !lightsOff.contains(cell)) {
                taken.put(cell, asked);
                asked.state = 1;
                return cell;
            }
        }
        return -1;
    }

    private Object light(int cell, boolean on) {
        cellThere(cell);
        boolean wasOff = lightsOff.remove((Integer) cell);
        if (!on) {
            lightsOff.add(cell);
        }
        return !wasOff;
    }

    private Object scan(int cell, int good, int person) {
        cellThere(cell);
        argumentIf(outside(good, 0, 9) || outside(person, 0, 7));
        OrderModel held = taken.get(cell);
        List<Piece> inTotes = piecesOf(null, good);
        int reason = held == null ? -1
                : lightsOff.contains(cell) ? -2
                : !held.lines.containsKey(good) ? -3
                : missing(held, good) == 0 || held.state == 2 ? -4
                : inTotes.isEmpty() ? -5 : 0;
        if (reason < 0) {
            errors.add(person);
            return reason;
        }
        inTotes.get(0).order = held;
        return 1;
    }

    private Object undo(int cell, int good) {
        cellThere(cell);
        argumentIf(outside(good, 0, 9));
        OrderModel held = taken.get(cell);
        stateIf(held == null || held.state == 2 || piecesOf(held, good).isEmpty());
        piecesOf(held, good).get(0).order = null;
        return piecesOf(held, good).size();
    }

    private Object miss(int order, int good, int day) {
        LineModel line = lineThere(order, good);
        argumentIf(outside(day, 0, 10000));
        OrderModel asked = orders.get(order);
        stateIf(asked.state != 1 || missing(asked, good) == 0);
        line.day = day;
        return missing(asked, good);
    }

    private Object day(int day) {
        argumentIf(outside(day, 0, 10000));
        stateIf(today > day);
        today = day;
        return null;
    }

    private Object change(int order, int good, int n) {
        LineModel line = lineThere(order, good);
        argumentIf(outside(n, 0, 9));
        OrderModel asked = orders.get(order);
        stateIf(asked.state >= 2 || n == 0 && asked.state == 1 && asked.lines.size() == 1);
        if (piecesOf(asked, good).size() > n) {
            return false;
        }
        line.wants = n;
        if (n == 0) {
            asked.lines.remove(good);
        }
        return true;
    }

    private Object complete(int order) {
        OrderModel asked = orderThere(order);
        stateIf(asked.state != 1);
        boolean all = asked.lines.keySet().stream()
                .allMatch(good -> missing(asked, good) == 0 || isOver(asked.lines.get(good)));
        asked.state = all ? 2 : 1;
        return all;
    }

    private Object release(int cell) {
        cellThere(cell);
        stateIf(!taken.containsKey(cell));
        if (taken.get(cell).state != 2) {
            return false;
        }
        taken.remove(cell).state = 3;
        return true;
    }

    private Object sample() {
        List<OrderModel> complete = taken.values().stream().filter(o -> o.state == 2).toList();
        if (complete.isEmpty()) {
            return -1;
        }
        seed = (seed * 1103515245L + 12345L) & 0x7fffffffL;
        return orders.indexOf(complete.get((int) ((seed >> 16) % complete.size())));
    }

    private Object seed(int x) {
        argumentIf(x < 0);
        seed = x;
        return null;
    }

    private Object told(int order, int what) {
        OrderModel asked = orderThere(order);
        argumentIf(outside(what, 0, 5));
        return switch (what) {
            case 0 -> asked.state;
            case 1 -> taken.keySet().stream().filter(c -> taken.get(c) == asked).findAny().orElse(-1);
            case 2 -> asked.lines.size();
            case 3 -> (int) pieces.stream().filter(p -> p.order == asked).count();
            case 4 -> asked.lines.values().stream().mapToInt(l -> l.wants).sum();
            default -> asked.lines.keySet().stream().filter(g -> isOver(asked.lines.get(g)))
                    .mapToInt(g -> missing(asked, g)).sum();
        };
    }

    private Object piece(int order, int good, int what) {
        LineModel line = lineThere(order, good);
        argumentIf(outside(what, 0, 2));
        return switch (what) {
            case 0 -> line.wants;
            case 1 -> piecesOf(orders.get(order), good).size();
            default -> line.day == null ? -1 : (int) line.day;
        };
    }

    private Object errors(int person) {
        argumentIf(outside(person, 0, 7));
        return (int) errors.stream().filter(p -> p == person).count();
    }

    private Object count(int what) {
        return switch (what) {
            case 0 -> cells;
            case 1 -> orders.size();
            case 2 -> cells - taken.size();
            case 3 -> (int) pieces.stream().filter(p -> taken.containsValue(p.order)).count();
            case 4 -> (int) pieces.stream().filter(p -> p.order == null).count();
            case 5 -> today;
            default -> -1;
        };
    }
}
