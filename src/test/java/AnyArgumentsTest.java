import java.lang.reflect.InvocationTargetException;
import java.lang.reflect.Method;
import java.lang.reflect.Modifier;
import java.util.Arrays;
import java.util.Comparator;
import java.util.List;
import java.util.function.Supplier;

/**
 * Each method with edges of all ranges as arguments, in all their combinations, on objects in several
 * states and far behind their 512th call: what is thrown is of its throws clause, never the machine's own.
 */
public final class AnyArgumentsTest {
    private static final int[] VALUES = {Integer.MIN_VALUE, -1, 0, 1, 5, 15, 39, 40, 359, 400, Integer.MAX_VALUE};

    private AnyArgumentsTest() {
    }

    public static void main(String[] args) throws IllegalAccessException {
        Due.sentence("A call throws what its throws clause lists, and nothing else");
        callAll("a new one", Orbitregister::new);
        callAll("with 40 filings", Made::forty);
        callAll("with 16 satellites", Made::sixteen);
        callAll("with filings in use", () -> Made.used(0, 1, 1, 50, 5, 9, 39, 1, 40, 50, 359, 7));
        callAll("on the last day", () -> Made.let(Made.used(0, 1, 359, 50), 4910));
        Due.end("AnyArgumentsTest");
    }

    private static void callAll(String what, Supplier<Orbitregister> made) throws IllegalAccessException {
        Orbitregister again = made.get();
        Method[] methods = Orbitregister.class.getDeclaredMethods();
        // reflection promises no order, and the calls shall come in the same one each time
        Arrays.sort(methods, Comparator.comparing(Method::getName));
        for (Method method : methods) {
            if (Modifier.isPublic(method.getModifiers())) {
                callInAllWays(what, method, made.get());
                callInAllWays(what + ", called before", method, again);
            }
        }
    }

    private static void callInAllWays(String what, Method method, Orbitregister x) throws IllegalAccessException {
        Class<?>[] types = method.getParameterTypes();
        int ways = 1;
        for (Class<?> type : types) {
            ways *= ways(type);
        }
        for (int way = 0; way < ways; way++) {
            Object[] arguments = new Object[types.length];
            int rest = way;
            for (int i = 0; i < types.length; i++) {
                int at = rest % ways(types[i]);
                arguments[i] = types[i] == boolean.class ? (Object) (at == 1) : (Object) VALUES[at];
                rest /= ways(types[i]);
            }
            call(what, method, x, arguments);
        }
    }

    private static int ways(Class<?> type) {
        return type == boolean.class ? 2 : VALUES.length;
    }

    private static void call(String what, Method method, Orbitregister x, Object[] arguments)
            throws IllegalAccessException {
        boolean isAsDue = true;
        try {
            method.invoke(x, arguments);
        } catch (InvocationTargetException e) {
            isAsDue = List.of(method.getExceptionTypes()).contains(e.getCause().getClass());
        }
        Due.answer(what + ": " + method.getName() + List.of(arguments) + " as due", isAsDue, true);
    }
}
