import java.lang.reflect.InvocationTargetException;
import java.lang.reflect.Method;
import java.util.ArrayList;
import java.util.Arrays;
import java.util.EnumMap;
import java.util.List;
import java.util.Map;

/**
 * Every call with each STATUS that it may have, and with each two that would fit at once: it gives NONE or false, with
 * the first of them, and changes nothing that can be seen through any probe of States.
 */
final class RefusalsTest {
    private static final int MAX = Integer.MAX_VALUE;
    private static final int MIN = Integer.MIN_VALUE;
    private static final Due due = new Due();
    private static final Map<States.State, List<List<Long>>> before = new EnumMap<>(States.State.class);

    public static void main(String[] args) throws ReflectiveOperationException {
        due.sentence("STATUS of a call is the first of these that holds");
        due.sentence("A call with another STATUS than 0 gives NONE, or false, and changes nothing but STATUS.");
        for (States.State state : States.State.values()) {
            before.put(state, probes(state, null));
        }
        trays();
        pour();
        engine();
        wheels();
        set();
        mishap();
        turn();
        sheet();
        explain();
        finer();
        mill();
        turns();
        errata();
        castAndTell();
        print();
        copies();
        jobs();
        due.end();
    }

    private interface Refused {
        void on(WheelTables x) throws ReflectiveOperationException;
    }

    /** What each probe sees of the works in a state, behind a call if there is one. */
    private static List<List<Long>> probes(States.State state, Refused call) throws ReflectiveOperationException {
        List<List<Long>> all = new ArrayList<>();
        for (int probe = 0; probe < States.PROBES; probe++) {
            WheelTables x = States.make(state);
            if (call != null) {
                call.on(x);
            }
            all.add(States.seen(x, probe));
        }
        return all;
    }

    private static Method method(String name) {
        for (Method m : WheelTables.class.getDeclaredMethods()) {
            if (m.getName().equals(name)) {
                return m;
            }
        }
        throw new IllegalArgumentException(name);
    }

    private static Object answer(WheelTables x, Method method, long... args) throws ReflectiveOperationException {
        Object[] given = new Object[args.length];
        for (int i = 0; i < args.length; i++) {
            boolean isLong = method.getParameterTypes()[i] == long.class;
            given[i] = isLong ? (Object) args[i] : (Object) Math.toIntExact(args[i]);
        }
        try {
            return method.invoke(x, given);
        } catch (InvocationTargetException e) {
            return e.getCause();
        }
    }

    private static boolean isNone(Object answer) {
        return answer.equals(Boolean.FALSE) || answer instanceof Number && ((Number) answer).longValue() == -1;
    }

    private static void refuse(States.State state, int status, String call, long... args)
            throws ReflectiveOperationException {
        Method method = method(call);
        String name = state + ": " + call + Arrays.toString(args);
        WheelTables x = States.make(state);
        Object given = answer(x, method, args);
        due.is(name + " gives NONE or false, not " + given, isNone(given), true);
        due.is("status() behind " + name, x.status(), status);
        List<List<Long>> behind = probes(state, y -> answer(y, method, args));
        for (int probe = 0; probe < States.PROBES; probe++) {
            due.is("what probe " + probe + " sees stays with " + name,
                behind.get(probe).equals(before.get(state).get(probe)), true);
        }
    }

    private static void fresh(int status, String call, long... args) throws ReflectiveOperationException {
        refuse(States.State.FRESH, status, call, args);
    }

    private static void furnished(int status, String call, long... args) throws ReflectiveOperationException {
        refuse(States.State.FURNISHED, status, call, args);
    }

    private static void full(int status, String call, long... args) throws ReflectiveOperationException {
        refuse(States.State.FULL, status, call, args);
    }

    private static void late(int status, String call, long... args) throws ReflectiveOperationException {
        refuse(States.State.LATE, status, call, args);
    }

    private static void unfit(int status, String call, long... args) throws ReflectiveOperationException {
        refuse(States.State.UNFIT, status, call, args);
    }

    private static void trays() throws ReflectiveOperationException {
        due.sentence("A TRAY is a row of so many numbers (at most 60; 5), all 0 (1; 5; 6).");
        furnished(1, "tray", -1, 0, 1);
        furnished(1, "tray", 4, 0, 1);
        furnished(1, "tray", 0, -1, 1);
        furnished(1, "tray", 0, 4, 1);
        furnished(1, "tray", 4, 0, 61);
        furnished(1, "tray", 0, 4, 61);
        furnished(1, "tray", -1, 0, -1);
        furnished(1, "tray", 0, -1, -1);
        furnished(5, "tray", 0, 1, 61);
        furnished(5, "tray", 3, 0, 61);
        furnished(5, "tray", 1, 0, MAX);
        furnished(6, "tray", 0, 1, -1);
        furnished(6, "tray", 3, 0, -1);
        furnished(6, "tray", 2, 3, MIN);

        due.sentence("A number comes to a place of a TRAY (1; 3; 4).");
        furnished(1, "write", -1, 0, 5);
        furnished(1, "write", 4, 0, 5);
        furnished(3, "write", 3, 0, 5);
        furnished(3, "write", 3, -1, 5);
        furnished(4, "write", 0, -1, 5);
        furnished(4, "write", 0, 5, 5);
        furnished(4, "write", 1, MAX, 5);
        furnished(4, "write", 2, MIN, 5);

        due.sentence("The number in a place of a TRAY; STATUS tells NONE from -1 (1; 3; 4).");
        furnished(1, "read", -1, 0);
        furnished(1, "read", 4, 0);
        furnished(3, "read", 3, 0);
        furnished(3, "read", 3, -1);
        furnished(4, "read", 0, -1);
        furnished(4, "read", 0, 5);
        furnished(4, "read", 1, MAX);
        furnished(4, "read", 2, MIN);
    }

    private static void pour() throws ReflectiveOperationException {
        due.sentence("1, 3 (either), 11, 6, 4, asked in this order.");
        furnished(1, "pour", 4, 0, 0, 0, 1);
        furnished(1, "pour", -1, 0, 0, 0, 1);
        furnished(1, "pour", 0, 0, 4, 0, 1);
        furnished(1, "pour", 0, 0, -1, 0, 1);
        furnished(1, "pour", 4, 0, 3, 0, 1);
        furnished(1, "pour", 3, 0, 4, 0, 1);
        furnished(1, "pour", 4, 0, 0, 0, -1);
        furnished(1, "pour", 0, 9, 4, 9, 1);
        furnished(3, "pour", 3, 0, 0, 0, 1);
        furnished(3, "pour", 0, 0, 3, 0, 1);
        furnished(3, "pour", 3, 0, 3, 0, 0);
        furnished(3, "pour", 3, 0, 0, 0, -1);
        furnished(3, "pour", 0, 9, 3, 9, 1);
        furnished(11, "pour", 0, 0, 1, 0, 1);
        furnished(11, "pour", 2, 0, 1, 0, 0);
        furnished(11, "pour", 0, 0, 1, 0, -1);
        furnished(11, "pour", 0, 9, 1, 9, 1);
        furnished(6, "pour", 0, 0, 0, 1, -1);
        furnished(6, "pour", 0, 9, 0, 9, -1);
        furnished(6, "pour", 0, 0, 0, 1, MIN);
        furnished(4, "pour", 0, 0, 0, 0, 6);
        furnished(4, "pour", 0, 1, 0, 0, 5);
        furnished(4, "pour", 0, 0, 0, 1, 5);
        furnished(4, "pour", 0, 5, 0, 0, 1);
        furnished(4, "pour", 0, 0, 0, 5, 1);
        furnished(4, "pour", 0, -1, 0, 0, 1);
        furnished(4, "pour", 0, 0, 0, -1, 1);
        furnished(4, "pour", 0, 6, 0, 0, 0);
        furnished(4, "pour", 0, 0, 0, 6, 0);
        furnished(4, "pour", 0, 1, 0, 0, MAX);
        furnished(4, "pour", 0, MAX, 0, 0, 1);
        furnished(4, "pour", 0, 0, 0, MAX, MAX);
        furnished(4, "pour", 0, MIN, 0, 0, MAX);
    }

    private static void engine() throws ReflectiveOperationException {
        due.sentence("its number (1; 3; 5: so many; 4; 5: a RADIX; 7; in this order).");
        furnished(1, "engine", 2, 1, -1);
        furnished(1, "engine", 2, 1, 4);
        furnished(1, "engine", 1, 0, 4);
        full(1, "engine", 2, 1, 4);
        furnished(3, "engine", 2, 1, 3);
        furnished(3, "engine", 1, 0, 3);
        full(3, "engine", 2, 1, 3);
        furnished(5, "engine", 1, 1, 0);
        furnished(5, "engine", 8, 1, 0);
        furnished(5, "engine", 2, 0, 0);
        furnished(5, "engine", 2, 13, 0);
        furnished(5, "engine", 1, 6, 0);
        furnished(5, "engine", MIN, MAX, 0);
        full(5, "engine", 1, 1, 0);
        furnished(4, "engine", 2, 6, 0);
        furnished(4, "engine", 7, 12, 2);
        full(4, "engine", 2, 6, 0);
        furnished(5, "engine", 2, 5, 0);
        furnished(5, "engine", 2, 1, 1);
        full(5, "engine", 2, 5, 0);
        full(7, "engine", 2, 4, 0);
        full(7, "engine", 7, 1, 0);
    }

    private static void wheels() throws ReflectiveOperationException {
        due.sentence("The FIGURE of a wheel (2).");
        fresh(2, "figure", 0, 0, 0);
        furnished(2, "figure", -1, 0, 0);
        furnished(2, "figure", 3, 0, 0);
        furnished(2, "figure", 0, -1, 0);
        furnished(2, "figure", 0, 3, 0);
        furnished(2, "figure", 0, 0, -1);
        furnished(2, "figure", 0, 0, 3);
        full(2, "figure", 4, 0, 0);
        full(2, "figure", MAX, MAX, MAX);

        due.sentence("A wheel is put to a FIGURE (2; 5).");
        fresh(2, "put", 0, 0, 0, 0);
        furnished(2, "put", -1, 0, 0, 0);
        furnished(2, "put", 3, 0, 0, 99);
        furnished(2, "put", 0, -1, 0, 0);
        furnished(2, "put", 0, 3, 0, -1);
        furnished(2, "put", 0, 0, -1, 0);
        furnished(2, "put", 0, 0, 3, 12);
        furnished(5, "put", 0, 0, 0, -1);
        furnished(5, "put", 0, 0, 0, 10);
        furnished(5, "put", 0, 0, 1, 6);
        furnished(5, "put", 0, 2, 2, 12);
        furnished(5, "put", 0, 0, 0, MAX);
        furnished(5, "put", 0, 0, 0, MIN);

        due.sentence("The NUMBER on an AXIS (2).");
        fresh(2, "number", 0, 0);
        furnished(2, "number", -1, 0);
        furnished(2, "number", 3, 0);
        furnished(2, "number", 0, -1);
        furnished(2, "number", 0, 3);
        furnished(2, "number", 1, 7);
    }

    private static void set() throws ReflectiveOperationException {
        due.sentence("SET up from the first n numbers of a TRAY (1; 2; 3; 5: n; 4; 5: a number; in this order).");
        furnished(1, "set", 0, 4, 1);
        furnished(1, "set", 3, -1, 1);
        furnished(1, "set", 0, 4, 0);
        furnished(2, "set", -1, 1, 1);
        furnished(2, "set", 3, 1, 1);
        furnished(2, "set", 3, 3, 1);
        furnished(2, "set", 3, 1, 0);
        furnished(3, "set", 0, 3, 1);
        furnished(3, "set", 0, 3, 0);
        furnished(5, "set", 0, 1, 0);
        furnished(5, "set", 0, 1, -1);
        furnished(5, "set", 0, 1, 4);
        furnished(5, "set", 1, 2, 8);
        furnished(5, "set", 1, 2, MAX);
        furnished(4, "set", 1, 2, 5);
        furnished(4, "set", 1, 2, 7);
        furnished(5, "set", 1, 2, 4);
    }

    private static void mishap() throws ReflectiveOperationException {
        due.sentence("A MISHAP (2: the last AXIS, too; 5: TURN, kind; 7).");
        fresh(2, "mishap", 0, 1, 0, 0, 0);
        furnished(2, "mishap", -1, 1, 0, 0, 0);
        furnished(2, "mishap", 3, 1, 0, 0, 0);
        furnished(2, "mishap", 0, 1, -1, 0, 0);
        furnished(2, "mishap", 0, 1, 2, 0, 0);
        furnished(2, "mishap", 0, 1, 3, 0, 0);
        furnished(2, "mishap", 2, 1, 1, 0, 0);
        furnished(2, "mishap", 0, 1, 0, -1, 0);
        furnished(2, "mishap", 0, 1, 0, 3, 0);
        furnished(2, "mishap", 3, 0, 0, 0, 0);
        furnished(2, "mishap", 0, 1001, 2, 0, 0);
        furnished(2, "mishap", 0, 1, 0, 3, 3);
        full(2, "mishap", 4, 1, 0, 0, 0);
        full(2, "mishap", 0, 1, 2, 0, 0);
        furnished(5, "mishap", 0, 0, 0, 0, 0);
        furnished(5, "mishap", 0, 1001, 0, 0, 0);
        furnished(5, "mishap", 0, 2, 0, 0, -1);
        furnished(5, "mishap", 0, 2, 0, 0, 3);
        full(5, "mishap", 0, 0, 0, 0, 0);
        full(5, "mishap", 0, 2, 0, 0, 3);
        full(7, "mishap", 0, 2, 0, 0, 0);

        due.sentence("All MISHAPS of an ENGINE are forgotten (2).");
        fresh(2, "mend", 0);
        furnished(2, "mend", -1);
        furnished(2, "mend", 3);
        full(2, "mend", 4);
    }

    private static void turn() throws ReflectiveOperationException {
        due.sentence("which TURN it is then (2; 5; 9: beyond 1,000).");
        fresh(2, "turn", 0, 1);
        furnished(2, "turn", -1, 1);
        furnished(2, "turn", 3, 0);
        late(2, "turn", 3, 200);
        furnished(5, "turn", 0, 0);
        furnished(5, "turn", 0, -1);
        furnished(5, "turn", 0, 201);
        furnished(5, "turn", 0, MAX);
        late(5, "turn", 0, 0);
        late(5, "turn", 0, 201);
        late(9, "turn", 0, 2);
        late(9, "turn", 0, 200);
        late(9, "turn", 2, 1);
    }

    private static void sheet() throws ReflectiveOperationException {
        due.sentence("cut to its sort (1; 2; 3; 5: r; 4; 9: beyond TURN 1,000; in this order).");
        furnished(1, "sheet", 0, -1, 1);
        furnished(1, "sheet", 3, 4, 1);
        furnished(1, "sheet", 0, 4, 0);
        late(1, "sheet", 0, 4, 2);
        furnished(2, "sheet", -1, 2, 1);
        furnished(2, "sheet", 3, 3, 1);
        furnished(2, "sheet", 3, 2, 0);
        furnished(2, "sheet", 3, 2, 5);
        furnished(3, "sheet", 0, 3, 1);
        furnished(3, "sheet", 0, 3, 0);
        late(3, "sheet", 0, 3, 2);
        furnished(5, "sheet", 0, 2, 0);
        furnished(5, "sheet", 0, 2, -1);
        furnished(5, "sheet", 0, 2, 61);
        late(5, "sheet", 0, 2, 61);
        furnished(4, "sheet", 0, 2, 5);
        late(4, "sheet", 0, 2, 5);
        late(9, "sheet", 0, 2, 2);
        late(9, "sheet", 2, 2, 1);
    }

    private static void explain() throws ReflectiveOperationException {
        due.sentence("(the ENGINE stays as it is) (1; 2; 3; 5: r; 4; 8; in this order).");
        furnished(1, "explain", 0, -1, 1);
        furnished(1, "explain", 3, 4, 1);
        furnished(1, "explain", 0, 4, 0);
        furnished(2, "explain", -1, 2, 1);
        furnished(2, "explain", 3, 3, 1);
        furnished(2, "explain", 3, 2, 0);
        furnished(3, "explain", 0, 3, 1);
        furnished(3, "explain", 0, 3, 0);
        furnished(5, "explain", 0, 2, 0);
        furnished(5, "explain", 0, 2, -1);
        furnished(5, "explain", 0, 2, 61);
        furnished(4, "explain", 0, 2, 5);
        furnished(8, "explain", 0, 2, 3);
        furnished(8, "explain", 0, 2, 4);
        late(8, "explain", 0, 2, 4);

        due.sentence("2: wheel, 3: kind (5; 8: none).");
        furnished(5, "because", -1);
        furnished(5, "because", 4);
        fresh(5, "because", 4);
        fresh(8, "because", 0);
        fresh(8, "because", 3);
    }

    private static void finer() throws ReflectiveOperationException {
        due.sentence("(1; 3; 5: k, m, r; 4; 5: a number; 8: more than 6; in this order).");
        furnished(1, "finer", -1, 1, 2, 1);
        furnished(1, "finer", 4, 0, 1, 0);
        furnished(3, "finer", 3, 1, 2, 1);
        furnished(3, "finer", 3, 0, 1, 0);
        furnished(5, "finer", 1, 0, 2, 1);
        furnished(5, "finer", 1, 5, 2, 1);
        furnished(5, "finer", 1, 1, 1, 1);
        furnished(5, "finer", 1, 1, 21, 1);
        furnished(5, "finer", 1, 1, 2, 0);
        furnished(5, "finer", 1, 1, 2, 61);
        furnished(5, "finer", 2, 5, 2, 1);
        furnished(5, "finer", 2, 4, 1, 1);
        furnished(5, "finer", 2, 4, 2, 61);
        furnished(4, "finer", 2, 4, 2, 1);
        furnished(5, "finer", 2, 3, 2, 1);
        furnished(8, "finer", 1, 4, 3, 60);
    }

    private static void mill() throws ReflectiveOperationException {
        due.sentence("how many CARDS (5: n; 10: the TEXT stays).");
        fresh(5, "cards", 1);
        furnished(5, "cards", -1);
        furnished(5, "cards", 41);
        furnished(5, "cards", MIN);
        full(5, "cards", 501);
        full(5, "cards", MAX);

        due.sentence("RUN: how many prints (8: no TEXT).");
        fresh(8, "run");

        due.sentence("3: CARDS done in all (5; 8: none was).");
        furnished(5, "ran", -1);
        furnished(5, "ran", 4);
        fresh(5, "ran", 4);
        fresh(8, "ran", 0);
        fresh(8, "ran", 2);

        due.sentence("STATUS tells NONE from -1 (8: none such).");
        furnished(8, "printed", -1);
        furnished(8, "printed", 1);
        furnished(8, "printed", MAX);
        fresh(8, "printed", 0);

        due.sentence("STATUS tells NONE from -1 (2; 8: none was).");
        furnished(2, "place", -1);
        furnished(2, "place", 20);
        fresh(2, "place", 20);
        fresh(8, "place", 0);
        fresh(8, "place", 19);
    }

    private static void turns() throws ReflectiveOperationException {
        due.sentence("LEAST turns for a number (5).");
        furnished(5, "turns", -1);
        furnished(5, "turns", 1000000000000L);
        furnished(5, "turns", Long.MIN_VALUE);
        furnished(5, "turns", Long.MAX_VALUE);

        due.sentence("Figure k (0 to 12) of that (5); STATUS tells NONE from -1.");
        furnished(5, "turnsAt", -1, 0);
        furnished(5, "turnsAt", 1000000000000L, 12);
        furnished(5, "turnsAt", 5, -1);
        furnished(5, "turnsAt", 5, 13);
        furnished(5, "turnsAt", Long.MIN_VALUE, MAX);
    }

    private static void errata() throws ReflectiveOperationException {
        due.sentence("(1; 3; 5: n, k, b; 4; 5: a number; 8: more than 2; in this order).");
        furnished(1, "errata", -1, 3, 1, 0);
        furnished(1, "errata", 4, 2, 0, -1);
        furnished(3, "errata", 3, 3, 1, 0);
        furnished(3, "errata", 3, 2, 0, -1);
        furnished(5, "errata", 1, 2, 1, 0);
        furnished(5, "errata", 1, 21, 1, 0);
        furnished(5, "errata", 1, 4, 0, 0);
        furnished(5, "errata", 1, 8, 5, 0);
        furnished(5, "errata", 1, 3, 3, 0);
        furnished(5, "errata", 1, 4, 4, 0);
        furnished(5, "errata", 1, 4, 1, -1);
        furnished(5, "errata", 1, 4, 1, 1001);
        furnished(5, "errata", 2, 21, 1, 0);
        furnished(5, "errata", 2, 5, 5, 0);
        furnished(5, "errata", 2, 5, 1, 1001);
        furnished(4, "errata", 2, 5, 1, 0);
        furnished(5, "errata", 2, 4, 1, 0);
        furnished(8, "errata", 1, 8, 1, 0);

        due.sentence("1: what it should be (5: what; 8: none such).");
        furnished(5, "right", 0, -1);
        furnished(5, "right", 0, 2);
        furnished(5, "right", 2, 2);
        furnished(8, "right", -1, 0);
        furnished(8, "right", 2, 1);
        furnished(8, "right", MAX, 0);
        fresh(5, "right", 0, 2);
        fresh(8, "right", 0, 0);
    }

    private static void castAndTell() throws ReflectiveOperationException {
        due.sentence("A row is CAST (2; 5; 7; 12).");
        rows("cast");
        due.sentence("A RIGHT number is told (2; 5; 7; 12).");
        rows("tell");
    }

    private static void rows(String call) throws ReflectiveOperationException {
        furnished(2, call, 5, -1, 0);
        furnished(2, call, 5, 40, 0);
        furnished(2, call, -1, 40, 0);
        furnished(2, call, 5, 40, 1000000001);
        furnished(2, call, 0, 40, 0);
        full(2, call, 5, 40, 0);
        furnished(5, call, -1, 0, 0);
        furnished(5, call, 10000, 0, 0);
        furnished(5, call, 5, 0, 1000000001);
        furnished(5, call, 5, 0, -1000000001);
        furnished(5, call, 6, 0, MAX);
        furnished(5, call, 6, 0, MIN);
        furnished(5, call, 0, 0, 1000000001);
        full(5, call, 5, 0, 1000000001);
        full(5, call, -1, 0, 0);
        full(7, call, 5, 0, 0);
        full(7, call, 6, 0, 0);
        full(7, call, 0, 0, 0);
        furnished(12, call, 4, 0, 0);
        furnished(12, call, 0, 39, 0);
    }

    private static void print() throws ReflectiveOperationException {
        due.sentence("Copies are PRINTED: the last one's number (5; 7; 12).");
        furnished(5, "print", -1, 1);
        furnished(5, "print", 10000, 1);
        furnished(5, "print", 6, 0);
        furnished(5, "print", 6, 1001);
        furnished(5, "print", 0, 0);
        full(5, "print", 5, 0);
        full(5, "print", -1, 1);
        full(7, "print", 5, 1);
        full(7, "print", 6, 1);
        full(7, "print", 0, 1);
        furnished(12, "print", 4, 1);
        furnished(12, "print", 0, 1000);
    }

    private static void copies() throws ReflectiveOperationException {
        due.sentence("STATUS tells NONE from -1 (2; 8: no such copy).");
        furnished(2, "says", 1, -1);
        furnished(2, "says", 1, 40);
        furnished(2, "says", 0, 40);
        furnished(2, "says", 16, -1);
        furnished(8, "says", 0, 0);
        furnished(8, "says", 16, 0);
        furnished(8, "says", -1, 39);
        furnished(8, "says", MAX, 0);
        fresh(8, "says", 1, 0);

        due.sentence("as known on a day (0 to 9,999) (5; 8).");
        furnished(5, "wrong", 1, -1);
        furnished(5, "wrong", 1, 10000);
        furnished(5, "wrong", 0, -1);
        furnished(5, "wrong", 16, 10000);
        furnished(8, "wrong", 0, 5);
        furnished(8, "wrong", 16, 5);
        fresh(8, "wrong", 1, 0);

        due.sentence("have a WRONG row as known on a day (5).");
        furnished(5, "bad", -1);
        furnished(5, "bad", 10000);
        fresh(5, "bad", MIN);
    }

    private static void jobs() throws ReflectiveOperationException {
        due.sentence("A JOB more: its number (5: AXES 2 to 7, WHEELS 1 to 12, TURNS; 7).");
        furnished(5, "job", 1, 1, 1);
        furnished(5, "job", 8, 1, 1);
        furnished(5, "job", 2, 0, 1);
        furnished(5, "job", 2, 13, 1);
        furnished(5, "job", 2, 1, 0);
        furnished(5, "job", 2, 1, 1001);
        full(5, "job", 1, 1, 1);
        full(5, "job", 2, 1, 1001);
        full(7, "job", 2, 1, 1);
        full(7, "job", 7, 12, 1000);

        due.sentence("(0 without JOBS) (9: a JOB fits no ENGINE).");
        unfit(9, "part");

        due.sentence("The ENGINE of a JOB by that (2; 9).");
        fresh(2, "partOf", 0);
        furnished(2, "partOf", -1);
        furnished(2, "partOf", 3);
        full(2, "partOf", 7);
        unfit(2, "partOf", -1);
        unfit(2, "partOf", 4);
        unfit(9, "partOf", 0);
        unfit(9, "partOf", 3);
    }
}
