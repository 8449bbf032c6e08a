import java.lang.reflect.InvocationTargetException;
import java.lang.reflect.Method;
import java.lang.reflect.Modifier;
import java.util.ArrayList;
import java.util.Comparator;
import java.util.List;
import java.util.Random;

/**
 * Calls of all methods in any order with any numbers: none throws, and what is refused (an answer below -1)
 * changes nothing that can be seen. Two objects of the same calls give the same answers.
 */
public final class WildTests extends Kit {
    private static final int RUNS = 3000;
    // With two looks at all that can be seen (some 180 calls each) and the texts an object stays below 512 calls.
    private static final int CALLS = 100;
    private static final int[] EDGES = {Integer.MIN_VALUE, Integer.MIN_VALUE + 1, -1_000_000_000, -61, -7, -2, -1, 0, 1, 2, 3, 4, 5, 6, 7, 8,
        12, 13, 20, 21, 40, 59, 60, 61, 99, 100, 127, 128, 255, 256, 800, 801, 999, 1000, 5000, 5001, 65535, 65536, 1_000_000_000,
        1_000_000_001, 2_000_000_000, 2_000_000_001, Integer.MAX_VALUE - 1, Integer.MAX_VALUE};
    private static final String[] HALLS = {"", "hall places 2;", "hall places 3; leap 2; hang 2 0 1;", "hall places 7;",
        "hall places 7; hang 6 5 4 3 2 1 0; law 0 with 6 each 1 from 0; law 1 with 5 each 6 from 5; leap 1; leap 3; leap 6;"
            + "suit 0 0 99; suit 6 6 1; apart 0 6; apart 3 4;",
        "hall places 5; apart 0 1; apart 0 2; apart 0 3; apart 0 4;", "hall places 8;", "#"};

    public static void main(String[] args) throws IllegalAccessException, InvocationTargetException {
        List<Method> methods = new ArrayList<>();
        for (Method method : SwapTrophies.class.getDeclaredMethods()) {
            if (Modifier.isPublic(method.getModifiers())) {
                methods.add(method);
            }
        }
        methods.sort(Comparator.comparing(Method::getName));
        for (int run = 0; run < RUNS; run++) {
            goWild(methods, new Random(run));
        }
        finish("nothing throws, and what is refused changes nothing");
    }

    private static void goWild(List<Method> methods, Random random) throws IllegalAccessException, InvocationTargetException {
        SwapTrophies x = new SwapTrophies();
        SwapTrophies twin = new SwapTrophies();
        int firstLook = random.nextInt(CALLS / 2);
        int secondLook = CALLS / 2 + random.nextInt(CALLS / 2);
        for (int i = 0; i < CALLS; i++) {
            if (i == 0 || i == CALLS / 2) {
                String text = HALLS[random.nextInt(HALLS.length)];
                for (SwapTrophies each : new SwapTrophies[] {x, twin}) {
                    each.end(0);
                    put(each, text);
                    each.hall();
                }
            }
            Method method = methods.get(random.nextInt(methods.size()));
            Object[] numbers = new Object[method.getParameterCount()];
            for (int k = 0; k < numbers.length; k++) {
                numbers[k] = wild(method.getParameterTypes()[k], random);
            }
            boolean isLookedAt = i == firstLook || i == secondLook;
            String was = isLookedAt ? seen(x) : "";
            long answer = ((Number) method.invoke(x, numbers)).longValue();
            long again = ((Number) method.invoke(twin, numbers)).longValue();
            String call = method.getName() + java.util.Arrays.toString(numbers);
            due(0, call + " of a twin", again, answer);
            if (isLookedAt && answer < -1) {
                stays(0, call + " answered " + answer, x, was);
            }
        }
    }

    private static Object wild(Class<?> type, Random random) {
        int number = random.nextInt(3) == 0 ? EDGES[random.nextInt(EDGES.length)] : random.nextInt(5);
        if (type == long.class) {
            return random.nextInt(8) == 0 ? random.nextLong() : Long.valueOf(number);
        }
        return number;
    }
}
