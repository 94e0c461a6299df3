import java.util.function.Consumer;
import java.util.function.Supplier;

/** What the tests share: answers and exceptions that are due, counted, and told if they are wrong. */
final class Due {
    private static int wrong = 0;
    private static int checked = 0;

    private Due() {
    }

    static void answer(String what, long got, long want) {
        checked++;
        if (got != want) {
            tell(what + " answered " + got + ", due is " + want);
        }
    }

    static void answer(String what, boolean got, boolean want) {
        answer(what, got ? 1 : 0, want ? 1 : 0);
    }

    static void same(String what, String got, String want) {
        checked++;
        if (!got.equals(want)) {
            tell(what + " answered\n  " + got + "\n due is\n  " + want);
        }
    }

    /** The very class of the exception is due: the machine's own ones are classes below. */
    static void thrown(String what, Class<? extends RuntimeException> want, Runnable call) {
        checked++;
        Class<?> got = null;
        try {
            call.run();
        } catch (RuntimeException e) {
            got = e.getClass();
        }
        if (got != want) {
            tell(what + " threw " + got + ", due is " + want);
        }
    }

    static void outOfBounds(String what, Supplier<Orbitregister> made, Consumer<Orbitregister> call) {
        refused(what, IndexOutOfBoundsException.class, made, call);
    }

    static void illegalArgument(String what, Supplier<Orbitregister> made, Consumer<Orbitregister> call) {
        refused(what, IllegalArgumentException.class, made, call);
    }

    static void illegalState(String what, Supplier<Orbitregister> made, Consumer<Orbitregister> call) {
        refused(what, IllegalStateException.class, made, call);
    }

    /** The call throws, and afterwards the object answers like one that was never called so. */
    private static void refused(String what, Class<? extends RuntimeException> want,
            Supplier<Orbitregister> made, Consumer<Orbitregister> call) {
        Orbitregister called = made.get();
        thrown(what, want, () -> call.accept(called));
        same(what + " changes nothing:", Answers.of(called), Answers.of(made.get()));
    }

    static void end(String test) {
        System.out.println(test + ": " + checked + " checked, " + wrong + " wrong");
        if (wrong != 0) {
            System.exit(1);
        }
    }

    private static void tell(String text) {
        wrong++;
        if (wrong <= 20) {
            System.out.println(text);
        }
    }
}
