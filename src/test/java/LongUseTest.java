import java.lang.reflect.InvocationTargetException;
import java.lang.reflect.Method;
import java.lang.reflect.Modifier;
import java.util.ArrayList;
import java.util.Comparator;
import java.util.List;
import java.util.Random;

/**
 * Objects that are used with any numbers and far behind their 512th call: what they answer there is free, but no
 * call may throw, and like calls of two objects must answer alike.
 */
public final class LongUseTest {
    private static final int RUNS = 12;
    private static final int CALLS = 30000;
    private static final int[] EDGES = {
        Integer.MIN_VALUE, Integer.MIN_VALUE + 1, -100000, -1000, -11, -10, -9, -2, -1, 0, 1, 2, 3, 4, 5, 6, 8, 9, 10, 11,
        19, 20, 29, 30, 39, 40, 59, 60, 61, 99, 100, 399, 400, 1000, 1001, 1039, 1040, 1041, 2000, 2001, 11199,
        99999, 100000, 110010, 999099, 999999, 1000000, 1000001, 14316558, Integer.MAX_VALUE - 1, Integer.MAX_VALUE,
    };

    public static void main(String[] args) throws IllegalAccessException {
        List<Method> calls = new ArrayList<>();
        for (Method method : SoupTickets.class.getDeclaredMethods()) {
            if (Modifier.isPublic(method.getModifiers())) {
                calls.add(method);
            }
        }
        calls.sort(Comparator.comparing(Method::getName));
        for (int run = 0; run < RUNS; run++) {
            if (!holds(calls, new Random(run), run % 3)) {
                System.exit(1);
            }
        }
        System.out.println("no call threw, and like calls answered alike");
    }

    private static boolean holds(List<Method> calls, Random random, int kind) throws IllegalAccessException {
        SoupTickets one = new SoupTickets();
        SoupTickets other = new SoupTickets();
        for (int i = 0; i < CALLS; i++) {
            Method call = calls.get(random.nextInt(calls.size()));
            // some runs stay long in their first weeks
            boolean stays = kind == 1 && call.getName().equals("go") && random.nextInt(20) > 0;
            Object[] arguments = new Object[call.getParameterCount()];
            for (int k = 0; k < arguments.length; k++) {
                arguments[k] = call.getParameterTypes()[k] == boolean.class ? (Object) random.nextBoolean()
                    : (Object) (stays ? 0 : someNumber(random, kind));
            }
            try {
                Object first = call.invoke(one, arguments);
                Object second = call.invoke(other, arguments);
                if (!first.equals(second)) {
                    System.out.println(call + " " + List.of(arguments) + " answered " + first + " and " + second);
                    return false;
                }
            } catch (InvocationTargetException thrown) {
                System.out.println(call + " " + List.of(arguments) + " threw " + thrown.getCause());
                return false;
            }
        }
        return true;
    }

    private static int someNumber(Random random, int kind) {
        int which = random.nextInt(kind == 2 ? 20 : 4);
        if (which == 0) {
            return EDGES[random.nextInt(EDGES.length)];
        }
        if (which == 1) {
            return random.nextInt(400);
        }
        return which == 2 ? random.nextInt(30) : random.nextInt(6);
    }
}
