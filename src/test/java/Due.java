import java.util.function.Consumer;
import java.util.function.Supplier;

/** What the tests share: answers and exceptions that are due, counted, and told if they are wrong. */
final class Due {
    private static int wrong = 0;
    private static int checked = 0;
    private static int sentences = 0;
    private static String sentence = "";

    /** A call with one of its arguments left open. */
    interface CallWith {
        void call(Orbitregister x, int value);
    }

    private Due() {
    }

    /** The sentence of the document that the checks behind this are for. */
    static void sentence(String text) {
        sentence = "[" + text + "] ";
        sentences++;
    }

    static void answer(String what, long got, long want) {
        checked++;
        if (got != want) {
            tell(what + " answered " + got + ", due is " + want);
        }
    }

    static void answer(String what, boolean got, boolean want) {
        answer(what, got ? 1 : 0, want ? 1 : 0);
    }

    /** What a filing is, asked in both ways. */
    static void state(String what, Orbitregister x, int filing, int want) {
        answer(what, x.filingOf(filing, 5), want);
        answer(what + ", anew", x.stateAnew(filing), want);
    }

    static void same(String what, String got, String want) {
        checked++;
        if (!got.equals(want)) {
            tell(what + " answered\n  " + got + "\n due is\n  " + want);
        }
    }

    static void outOfBounds(String what, Supplier<Orbitregister> made, Consumer<Orbitregister> call) {
        refused(what, IndexOutOfBoundsException.class, made, call);
    }

    static void illegalArgument(String what, Supplier<Orbitregister> made, Consumer<Orbitregister> call) {
        refused(what, IllegalArgumentException.class, made, call);
    }

    static void illegalState(String what, Supplier<Orbitregister> made, Consumer<Orbitregister> call) {
        refused(what, IllegalStateException.class, made, call);
    }

    /** Refused on both sides of a range: right outside it, and as far as an int goes. */
    static void outOfBounds(String what, int low, int high, Supplier<Orbitregister> made, CallWith call) {
        for (int value : outside(low, high)) {
            outOfBounds(what + " " + value, made, x -> call.call(x, value));
        }
    }

    static void illegalArgument(String what, int low, int high, Supplier<Orbitregister> made, CallWith call) {
        for (int value : outside(low, high)) {
            illegalArgument(what + " " + value, made, x -> call.call(x, value));
        }
    }

    /** The calls change nothing: afterwards the object answers like one that was never called so. */
    static void unchanged(String what, Supplier<Orbitregister> made, Consumer<Orbitregister> calls) {
        String got = Answers.ofAll(() -> {
            Orbitregister x = made.get();
            calls.accept(x);
            return x;
        });
        same(what + " changes nothing:", got, Answers.ofAll(made));
    }

    private static int[] outside(int low, int high) {
        return new int[] {low - 1, high + 1, Integer.MIN_VALUE, Integer.MAX_VALUE};
    }

    private static void refused(String what, Class<? extends RuntimeException> want,
            Supplier<Orbitregister> made, Consumer<Orbitregister> call) {
        checked++;
        Class<?> got = thrownBy(made.get(), call);
        // the very class is due: the machine's own exceptions are classes below
        if (got != want) {
            tell(what + " threw " + got + ", due is " + want);
        }
        unchanged(what, made, x -> thrownBy(x, call));
    }

    private static Class<?> thrownBy(Orbitregister x, Consumer<Orbitregister> call) {
        try {
            call.accept(x);
        } catch (RuntimeException e) {
            return e.getClass();
        }
        return null;
    }

    static void end(String test) {
        String told = sentences == 0 ? "" : sentences + " sentences, ";
        System.out.println(test + ": " + told + checked + " checked, " + wrong + " wrong");
        if (wrong != 0) {
            System.exit(1);
        }
    }

    private static void tell(String text) {
        wrong++;
        if (wrong <= 20) {
            System.out.println(sentence + text);
        }
    }
}
