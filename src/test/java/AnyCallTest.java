import java.lang.reflect.InvocationTargetException;
import java.lang.reflect.Method;
import java.lang.reflect.Modifier;
import java.util.ArrayList;
import java.util.Comparator;
import java.util.List;
import java.util.Random;

/** No call throws or fails to end, for any arguments in any state. */
public final class AnyCallTest {
    private static final int OBJECTS = 1500;
    private static final int CALLS = 512;
    private static final int[] EDGES = {Integer.MIN_VALUE, Integer.MAX_VALUE, -1, -2, 28, 16, 60, 61, 100, 800, 801, 1439, 1440,
            9999, 10000, 1 << 30};
    private static final int[] FEW = {Integer.MIN_VALUE, -1, 0, 1, 3, 28, 60, Integer.MAX_VALUE};
    private static final long[] LONGS = {Long.MIN_VALUE, -1, 0, 3, 1L << 32, Long.MAX_VALUE};

    public static void main(String[] args) throws IllegalAccessException {
        List<Method> calls = new ArrayList<>();
        for (Method m : OneWays.class.getDeclaredMethods()) {
            if (Modifier.isPublic(m.getModifiers())) {
                calls.add(m);
            }
        }
        // Reflection tells methods in no fixed order.
        calls.sort(Comparator.comparing(Method::getName));
        TestKit.due("public methods", calls.size(), 55);
        for (Method m : calls) {
            everyEdge(m);
        }
        Random r = new Random(11);
        for (int n = 0; n < OBJECTS; n++) {
            OneWays x = new OneWays();
            for (int c = 0; c < CALLS; c++) {
                if (r.nextInt(40) == 0) {
                    String text = Model.chance(r, 28).text();
                    TestKit.tell(x, text.substring(0, Math.min(text.length(), 800)));
                } else {
                    callOne(r, x, calls.get(r.nextInt(calls.size())));
                }
            }
        }
        TestKit.finish();
    }

    /** All edges in all places at once, in a new object, in a full TOWN, and in one with all rows and IMAGES. */
    private static void everyEdge(Method m) throws IllegalAccessException {
        OneWays[] objects = {new OneWays(), FullTown.given(), FullTown.stuffed()};
        Object[] values = new Object[m.getParameterCount()];
        for (OneWays x : objects) {
            everyValue(x, m, values, 0);
        }
    }

    private static void everyValue(OneWays x, Method m, Object[] values, int at) throws IllegalAccessException {
        if (at == values.length) {
            invoke(x, m, values);
        } else if (m.getParameterTypes()[at] == long.class) {
            for (long v : LONGS) {
                values[at] = v;
                everyValue(x, m, values, at + 1);
            }
        } else {
            for (int v : FEW) {
                values[at] = v;
                everyValue(x, m, values, at + 1);
            }
        }
    }

    private static void callOne(Random r, OneWays x, Method m) throws IllegalAccessException {
        Object[] values = new Object[m.getParameterCount()];
        for (int i = 0; i < values.length; i++) {
            boolean isLong = m.getParameterTypes()[i] == long.class;
            values[i] = isLong ? (Object) (r.nextBoolean() ? r.nextLong() : r.nextInt(4)) : (Object) chance(r);
            if (isLong && values[i] instanceof Integer) {
                values[i] = ((Integer) values[i]).longValue();
            }
        }
        invoke(x, m, values);
    }

    private static void invoke(OneWays x, Method m, Object[] values) throws IllegalAccessException {
        try {
            Object got = m.invoke(x, values);
            TestKit.due(m.getName(), got instanceof Integer ? 1 : 0, 1);
        } catch (InvocationTargetException e) {
            TestKit.dueText(m.getName() + java.util.Arrays.toString(values), String.valueOf(e.getCause()), "a number");
        }
    }

    private static int chance(Random r) {
        switch (r.nextInt(12)) {
            case 0:
                return EDGES[r.nextInt(EDGES.length)];
            case 1:
                return r.nextInt();
            case 2:
                return r.nextInt(70) - 5;
            case 3:
                return r.nextInt(16);
            default:
                return r.nextInt(3);
        }
    }
}
