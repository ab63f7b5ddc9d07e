import java.lang.reflect.Method;
import java.util.HashMap;
import java.util.Map;

/** One object that is asked by the names of its calls, with sheets laid, and all that can be seen of it. */
final class World {
    /** With a shore and two readings; without a shore; with a shore and readings that are full. */
    enum Kind { SHORE, BARE, FULL }

    /** Four pools, of heights 3, 5, 1, 7; five members. It lies on sheet 0, bytes. */
    static final String TEXT = "r212,32,51,14,73;s05;c27;l01;s33;c19";
    /** On sheet 1, ints: three tides of a year, then two that are none. */
    private static final int[] TIDES = {4, 9, 6, 10, -1};
    /** On sheet 2, shorts: the four pools, then two that are none. Sheet 3 has nothing. */
    private static final int[] POOLS = {0, 1, 2, 3, 4, -1};
    /** Later calls of one object answer what they like. */
    private static final int MOST_CALLS = 512;
    private static final Map<String, Method> METHODS = methods();

    private final TideSeats x = new TideSeats();
    private int calls;

    private World() {
    }

    /** A new object: nothing is on its sheets, either. */
    static World bare() {
        return new World();
    }

    World(Kind kind) {
        lay(0, 0, Due.codes(TEXT));
        lay(1, 2, TIDES);
        lay(2, 1, POOLS);
        if (kind != Kind.BARE) {
            call("shore", 0, 0, 0, TEXT.length());
            call("name", 2);
        }
        int readings = kind == Kind.BARE ? 0 : kind == Kind.FULL ? 8 : 2;
        for (int k = 0; k < readings; k++) {
            call("reading", k % 2, 6, k % 2 == 0 ? 2 : 0);
        }
    }

    private static Map<String, Method> methods() {
        Map<String, Method> methods = new HashMap<>();
        for (Method method : TideSeats.class.getMethods()) {
            if (method.getDeclaringClass() == TideSeats.class) {
                methods.put(method.getName(), method);
            }
        }
        return methods;
    }

    private void lay(int sheet, int lane, int[] cells) {
        call("sheet", sheet, lane, cells.length);
        for (int i = 0; i < cells.length; i++) {
            call("put", sheet, i, cells[i]);
        }
    }

    long call(String name, int... args) {
        calls++;
        if (calls > MOST_CALLS) {
            throw new IllegalStateException("an object is used for more than " + MOST_CALLS + " calls");
        }
        Object[] boxed = new Object[args.length];
        for (int i = 0; i < args.length; i++) {
            boxed[i] = args[i];
        }
        try {
            return ((Number) METHODS.get(name).invoke(x, boxed)).longValue();
        } catch (ReflectiveOperationException e) {
            throw new IllegalStateException(name, e);
        }
    }

    /** All that can be seen but fault(), which this changes. */
    String seen() {
        StringBuilder seen = new StringBuilder();
        for (int what = 0; what <= 5; what++) {
            seen.append(call("many", what)).append(' ');
        }
        for (int number = 0; number <= 5; number++) {
            for (int what = 0; what <= 3; what++) {
                seen.append(call("ofPool", number, what)).append(' ').append(call("ofMember", number, what)).append(' ');
            }
            seen.append(call("heights", number)).append(' ').append(call("kinds", number)).append('\n');
        }
        seen.append(call("streams")).append(' ').append(call("trace")).append('\n');
        for (int sheet = 0; sheet <= 3; sheet++) {
            for (int lane = 0; lane <= 2; lane++) {
                appendRow(seen, sheet, lane);
            }
        }
        return seen.toString();
    }

    /** The cells, then the fault of the first one that is not there: it tells nothing, another lane and an end apart. */
    private void appendRow(StringBuilder seen, int sheet, int lane) {
        int i = 0;
        long cell = call("cell", sheet, i, lane);
        while (cell != TideSeats.LOST) {
            seen.append(cell).append(' ');
            i++;
            cell = call("cell", sheet, i, lane);
        }
        seen.append('f').append(call("fault")).append('\n');
    }
}
