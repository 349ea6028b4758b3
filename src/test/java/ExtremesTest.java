import java.lang.reflect.InvocationTargetException;
import java.lang.reflect.Method;
import java.lang.reflect.Modifier;
import java.util.Arrays;
import java.util.Comparator;
import java.util.Random;

/** No call ever throws, for any arguments in any state; and the same calls give the same answers. */
final class ExtremesTest {
    private static final long[] FAR = {Long.MIN_VALUE, Long.MAX_VALUE, Integer.MIN_VALUE, Integer.MAX_VALUE,
        Integer.MIN_VALUE + 1, Integer.MAX_VALUE - 1, -1000000001, 1000000001, 1000000000000L, 100000000, -10001};
    private static final int[] NEAR = {0, 1, 2, 3, 4, 5, 6, 7, 11, 12, 13, 19, 20, 39, 40, 59, 60, 61, 200, 1000, -1};

    public static void main(String[] args) throws IllegalAccessException {
        Due due = new Due();
        Method[] calls = Arrays.stream(WheelTables.class.getDeclaredMethods())
            .filter(m -> Modifier.isPublic(m.getModifiers()))
            .sorted(Comparator.comparing(Method::getName))
            .toArray(Method[]::new);
        for (int run = 0; run < 400; run++) {
            long first = answers(due, calls, run);
            due.is("the same calls give the same answers", answers(due, calls, run), first);
        }
        due.end();
    }

    /** A number made of all answers of a run of 512 calls. */
    private static long answers(Due due, Method[] calls, int run) throws IllegalAccessException {
        Random random = new Random(run);
        WheelTables x = new WheelTables();
        long sum = 0;
        for (int i = 0; i < 512; i++) {
            Method call = calls[random.nextInt(calls.length)];
            Object[] args = new Object[call.getParameterCount()];
            for (int a = 0; a < args.length; a++) {
                boolean far = random.nextInt(100) < run % 50;
                long v = far ? FAR[random.nextInt(FAR.length)] : NEAR[random.nextInt(run % 3 == 0 ? 5 : NEAR.length)];
                boolean isLong = call.getParameterTypes()[a] == long.class;
                if (isLong) {
                    args[a] = v;
                } else {
                    args[a] = (int) v;
                }
            }
            try {
                Object answer = call.invoke(x, args);
                sum = 31 * sum + answer.hashCode() + x.status();
            } catch (InvocationTargetException e) {
                due.is(call + " of " + Arrays.toString(args) + " threw " + e.getCause(), 1, 0);
            }
        }
        return sum;
    }
}
