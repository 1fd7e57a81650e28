import java.lang.reflect.InvocationTargetException;
import java.lang.reflect.Method;
import java.lang.reflect.Modifier;
import java.util.ArrayList;
import java.util.Arrays;
import java.util.Comparator;
import java.util.List;
import java.util.Random;

/** "No call may ever throw .. for any arguments in any state": also far behind the 512th call. */
public final class NoThrowTest {
    private static final Due DUE = new Due("NoThrowTest");
    private static final int OBJECTS = 20;
    private static final int CALLS = 20000;
    private static final int[] EDGES = {0, 1, -1, 2, 3, 9, 10, 15, 16, 25, 26, 149, 150, 255, 256, 600,
        601, -2, Integer.MIN_VALUE, Integer.MIN_VALUE + 1, Integer.MAX_VALUE - 1, Integer.MAX_VALUE};

    public static void main(String[] args) throws IllegalAccessException {
        List<Method> methods = new ArrayList<>();
        for (Method method : LiveViews.class.getDeclaredMethods()) {
            if (Modifier.isPublic(method.getModifiers())) {
                methods.add(method);
            }
        }
        methods.sort(Comparator.comparing(Method::getName));
        for (int seed = 0; seed < OBJECTS; seed++) {
            useForLong(methods, new Random(seed));
        }
        DUE.end();
    }

    private static void useForLong(List<Method> methods, Random random) throws IllegalAccessException {
        LiveViews x = new LiveViews();
        for (int call = 0; call < CALLS; call++) {
            Method method = methods.get(random.nextInt(methods.size()));
            Object[] arguments = new Object[method.getParameterCount()];
            Arrays.setAll(arguments, i -> argument(random));
            try {
                int answer = (int) method.invoke(x, arguments);
                DUE.holds(method.getName() + " answers no less than ROOM", answer >= LiveViews.ROOM);
            } catch (InvocationTargetException thrown) {
                DUE.holds(method.getName() + Arrays.toString(arguments) + " threw " + thrown.getCause(), false);
            }
        }
    }

    private static int argument(Random random) {
        return random.nextBoolean() ? EDGES[random.nextInt(EDGES.length)] : random.nextInt(160);
    }
}
