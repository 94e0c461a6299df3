import java.lang.reflect.Constructor;
import java.lang.reflect.Field;
import java.lang.reflect.Method;
import java.lang.reflect.Modifier;
import java.util.HashSet;
import java.util.Set;
import java.util.TreeSet;

/** The face has what the document lists, and nothing else of it is seen from outside. */
public final class FaceTest {
    private static final String B = "java.lang.IndexOutOfBoundsException";
    private static final String A = "java.lang.IllegalArgumentException";
    private static final String S = "java.lang.IllegalStateException";

    private FaceTest() {
    }

    public static void main(String[] args) {
        constants();
        members();
        hiddenOnes();
        Due.end("FaceTest");
    }

    private static void constants() {
        Due.answer("NONE", Orbitregister.NONE, -1);
        Due.answer("FILED", Orbitregister.FILED, 0);
        Due.answer("NOTIFIED", Orbitregister.NOTIFIED, 1);
        Due.answer("IN_USE", Orbitregister.IN_USE, 2);
        Due.answer("SUSPENDED", Orbitregister.SUSPENDED, 3);
        Due.answer("LAPSED", Orbitregister.LAPSED, 4);
        Due.answer("ACTIVE", Orbitregister.ACTIVE, 0);
        Due.answer("GRAVE", Orbitregister.GRAVE, 1);
        Due.answer("WRECK", Orbitregister.WRECK, 2);
        Due.answer("COLLIDED", Orbitregister.COLLIDED, 0);
        Due.answer("FIRST", Orbitregister.FIRST, 1);
        Due.answer("SECOND", Orbitregister.SECOND, 2);
        Due.answer("BOTH", Orbitregister.BOTH, 3);
        Due.answer("INTO", Orbitregister.INTO, 4);
    }

    private static void members() {
        String[] due = {
            "int file(int int int int) " + B + " " + A + " " + S,
            "int agree(int int int) " + B + " " + A + " " + S,
            "boolean inform(int boolean) " + B + " " + S,
            "boolean change(int int int) " + B + " " + A + " " + S,
            "int withdraw(int) " + B + " " + S,
            "int use(int int) " + B + " " + S,
            "boolean complain(int int) " + B + " " + S,
            "int launch(int int int boolean) " + B + " " + A + " " + S,
            "int register(int int) " + B + " " + S,
            "int move(int int) " + B + " " + S,
            "int bury(int) " + B + " " + S,
            "int die(int) " + B + " " + S,
            "int near(int int) " + B + " " + A + " " + S,
            "int claim(int int boolean boolean) " + B + " " + A,
            "int pass(int) " + A + " " + S,
            "int day()",
            "int filingOf(int int) " + B + " " + A,
            "int stateAnew(int) " + B,
            "int harm(int int) " + B,
            "int allowed(int int) " + B,
            "int needs(int) " + B,
            "int bears(int) " + B,
            "int first(int int) " + B,
            "int satelliteOf(int int) " + B + " " + A,
            "int pieces(int) " + B,
            "long paid(int) " + B,
        };
        Set<String> got = new TreeSet<>();
        for (Method method : Orbitregister.class.getDeclaredMethods()) {
            if (!Modifier.isPrivate(method.getModifiers())) {
                Due.answer(method.getName() + " is public alone", method.getModifiers(), Modifier.PUBLIC);
                got.add(signature(method));
            }
        }
        Due.same("methods", got.toString(), new TreeSet<>(Set.of(due)).toString());
    }

    private static void hiddenOnes() {
        Due.answer("class", Orbitregister.class.getModifiers(), Modifier.PUBLIC | Modifier.FINAL);
        Constructor<?>[] made = Orbitregister.class.getDeclaredConstructors();
        Due.answer("constructors", made.length, 1);
        Due.answer("its parameters", made[0].getParameterCount(), 0);
        int constants = 0;
        for (Field field : Orbitregister.class.getDeclaredFields()) {
            if (!Modifier.isPrivate(field.getModifiers())) {
                constants++;
                Due.answer(field.getName() + " is a constant", field.getModifiers(),
                        Modifier.PUBLIC | Modifier.STATIC | Modifier.FINAL);
            }
        }
        Due.answer("constants", constants, 14);
        Set<String> open = new HashSet<>();
        for (Method method : Orbitregister.class.getMethods()) {
            open.add(method.getName());
        }
        countReused(Orbitregister.class, open);
        for (Class<?> inside : Orbitregister.class.getDeclaredClasses()) {
            Due.answer(inside.getName() + " is static", Modifier.isStatic(inside.getModifiers()), true);
            Due.answer(inside.getName() + " is public", Modifier.isPublic(inside.getModifiers()), false);
            countReused(inside, open);
        }
    }

    private static void countReused(Class<?> owner, Set<String> open) {
        for (Method method : owner.getDeclaredMethods()) {
            boolean isFace = owner == Orbitregister.class && Modifier.isPublic(method.getModifiers());
            if (!isFace) {
                Due.answer("name of a public method: " + method, open.contains(method.getName()), false);
            }
        }
    }

    private static String signature(Method method) {
        StringBuilder text = new StringBuilder();
        text.append(method.getReturnType().getName()).append(' ').append(method.getName()).append('(');
        String gap = "";
        for (Class<?> type : method.getParameterTypes()) {
            text.append(gap).append(type.getName());
            gap = " ";
        }
        text.append(')');
        for (Class<?> type : method.getExceptionTypes()) {
            text.append(' ').append(type.getName());
        }
        return text.toString();
    }
}
