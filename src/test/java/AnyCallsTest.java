import java.lang.reflect.InvocationTargetException;
import java.lang.reflect.Method;
import java.lang.reflect.Modifier;
import java.util.ArrayList;
import java.util.Comparator;
import java.util.List;
import java.util.Random;

/** Any calls with any arguments: nothing is thrown but what the document names for the call. */
public final class AnyCallsTest {
    private static final int CALLS = 512;
    private static final int[] EDGES = {Integer.MIN_VALUE, -1, 12, 32, 101, Integer.MAX_VALUE};

    public static void main(String[] args) throws IllegalAccessException {
        List<Method> methods = new ArrayList<>();
        for (Method method : SerialBus.class.getDeclaredMethods()) {
            if (Modifier.isPublic(method.getModifiers())) {
                methods.add(method);
            }
        }
        // Reflection has no order of its own, and each run should make the same calls.
        methods.sort(Comparator.comparing(Method::getName));
        for (int seed = 0; seed < 300; seed++) {
            String first = life(methods, seed);
            Due.is("the same calls give the same answers", life(methods, seed), first);
        }
        Due.finish();
    }

    private static String life(List<Method> methods, int seed) throws IllegalAccessException {
        Random random = new Random(seed);
        SerialBus bus = new SerialBus();
        StringBuilder answers = new StringBuilder();
        for (int call = 0; call < CALLS; call++) {
            Method method = methods.get(random.nextInt(methods.size()));
            answers.append(answer(bus, method, arguments(method, random))).append(' ');
        }
        return answers.toString();
    }

    private static Object[] arguments(Method method, Random random) {
        Object[] arguments = new Object[method.getParameterCount()];
        for (int i = 0; i < arguments.length; i++) {
            if (method.getParameterTypes()[i] == boolean.class) {
                arguments[i] = random.nextBoolean();
            } else if (random.nextInt(25) == 0) {
                arguments[i] = EDGES[random.nextInt(EDGES.length)];
            } else {
                arguments[i] = random.nextInt(i == 0 ? 5 : 3);
            }
        }
        return arguments;
    }

    private static String answer(SerialBus bus, Method method, Object[] arguments)
            throws IllegalAccessException {
        try {
            return String.valueOf(method.invoke(bus, arguments));
        } catch (InvocationTargetException e) {
            Class<?> thrown = e.getCause().getClass();
            boolean named = List.of(method.getExceptionTypes()).contains(thrown);
            Due.is(method.getName() + " may throw " + thrown.getName(), named, true);
            return thrown.getName();
        }
    }
}
