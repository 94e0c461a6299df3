import java.io.IOException;
import java.lang.reflect.Field;
import java.lang.reflect.InvocationTargetException;
import java.lang.reflect.Method;
import java.lang.reflect.Modifier;
import java.nio.file.Files;
import java.nio.file.Path;
import java.util.HashMap;
import java.util.Map;
import java.util.Set;
import java.util.TreeSet;
import java.util.function.Supplier;
import java.util.regex.Matcher;
import java.util.regex.Pattern;
import java.util.stream.Stream;

/** What README.md says holds of the class and of the tests: run from the project's own directory. */
public final class ReadmeTest {
    private static final Pattern CALL =
            Pattern.compile("(?:int (\\w+) = )?x\\.(\\w+)\\((.*)\\);\\s+// (throws \\w+|-?\\w+).*");
    private static final Pattern RANGE =
            Pattern.compile("\\| `(\\w+)`(?: of `(\\w+)`)? \\| (\\d+) \\| (\\d+) \\| (\\w+) \\|");
    private static final Pattern ROW = Pattern.compile("\\| `((?:int|long|boolean) .*\\))` \\|(.*)\\|(.*)\\|(.*)\\|");
    private static final Pattern CONSTANT = Pattern.compile("`([A-Z_]+) = (-?\\d+)`");
    private static final Pattern FACE_LINE =
            Pattern.compile("public ((?:int|long|boolean) \\w+\\([^)]*\\))(?: throws ([\\w, ]*))? \\{");
    private static final Pattern TEST_NAME = Pattern.compile("`(Due|Made|Answers|PlainRegister|\\w+Test)`");

    private ReadmeTest() {
    }

    public static void main(String[] args) throws IOException, IllegalAccessException {
        String readme = Files.readString(Path.of("README.md"));
        example(readme);
        ranges(readme);
        calls(readme);
        constants(readme);
        howManyCalls(readme);
        tests(readme);
        oneCommand(readme);
        Due.end("ReadmeTest");
    }

    // ---- the example

    private static void example(String readme) throws IllegalAccessException {
        Due.sentence("What each call answers stands behind it");
        String[] lines = readme.substring(readme.indexOf("```java\n"), readme.lastIndexOf("```")).split("\n");
        Due.same("the first line", lines[1], "Orbitregister x = new Orbitregister();");
        Orbitregister x = new Orbitregister();
        Map<String, Object> names = new HashMap<>();
        for (int i = 2; i < lines.length; i++) {
            Matcher line = CALL.matcher(lines[i]);
            boolean isCall = line.matches();
            Due.answer("a call with its answer: " + lines[i], isCall, true);
            if (isCall) {
                Object got = answerOf(x, line.group(2), line.group(3), names);
                Due.same(lines[i], got.toString(), valueOf(line.group(4)));
                if (line.group(1) != null) {
                    names.put(line.group(1), got);
                }
            }
        }
        Due.answer("there are calls", lines.length > 10, true);
    }

    private static Object answerOf(Orbitregister x, String name, String text, Map<String, Object> names)
            throws IllegalAccessException {
        String[] parts = text.split(", ");
        Object[] arguments = new Object[parts.length];
        for (int i = 0; i < parts.length; i++) {
            arguments[i] = argumentOf(parts[i], names);
        }
        try {
            return methodOf(name).invoke(x, arguments);
        } catch (InvocationTargetException e) {
            return "throws " + e.getCause().getClass().getSimpleName();
        }
    }

    private static Object argumentOf(String text, Map<String, Object> names) {
        if (names.containsKey(text)) {
            return names.get(text);
        }
        return text.equals("true") || text.equals("false") ? (Object) Boolean.valueOf(text) : Integer.valueOf(text);
    }

    private static Method methodOf(String name) {
        for (Method method : Orbitregister.class.getDeclaredMethods()) {
            if (method.getName().equals(name) && Modifier.isPublic(method.getModifiers())) {
                return method;
            }
        }
        throw new IllegalArgumentException("README.md calls what is not there: " + name);
    }

    private static String valueOf(String told) throws IllegalAccessException {
        for (Field field : Orbitregister.class.getDeclaredFields()) {
            if (field.getName().equals(told) && Modifier.isPublic(field.getModifiers())) {
                return field.get(null).toString();
            }
        }
        return told;
    }

    // ---- what the arguments may be

    private static void ranges(String readme) {
        Due.sentence("What the arguments may be");
        Set<String> told = new TreeSet<>();
        Matcher row = RANGE.matcher(readme);
        while (row.find()) {
            String name = row.group(2) == null ? row.group(1) : row.group(1) + " of " + row.group(2);
            told.add(name);
            range(name, Integer.parseInt(row.group(3)), Integer.parseInt(row.group(4)), row.group(5));
        }
        Due.same("all of them", told.toString(), "[amount, band, days, filing, fuel, harm, land, power, satellite,"
                + " sector, slot, states, what of filingOf, what of satelliteOf]");
    }

    private static void range(String name, int least, int most, String exception) {
        Supplier<Orbitregister> made = madeFor(name);
        Due.CallWith call = callWith(name);
        if (exception.equals("IndexOutOfBoundsException")) {
            Due.outOfBounds(name, least, most, made, call);
        } else {
            Due.same(name + " outside", exception, "IllegalArgumentException");
            Due.illegalArgument(name, least, most, made, call);
        }
        // a value inside that is refused ends the test by its exception
        call.call(made.get(), least);
        call.call(made.get(), most);
    }

    private static Supplier<Orbitregister> madeFor(String name) {
        return switch (name) {
            case "filing" -> Made::forty;
            case "satellite", "amount" -> Made::sixteen;
            case "harm", "what of filingOf" -> () -> Made.filed(0, 1, 0, 1);
            case "what of satelliteOf" -> () -> Made.launched(0, false, 5);
            default -> Orbitregister::new;
        };
    }

    private static Due.CallWith callWith(String name) {
        return switch (name) {
            case "land" -> (x, value) -> x.file(value, 0, 0, 1);
            case "slot" -> (x, value) -> x.file(0, value, 0, 1);
            case "band" -> (x, value) -> x.file(0, 0, value, 1);
            case "power" -> (x, value) -> x.file(0, 0, 0, value);
            case "sector" -> (x, value) -> x.pieces(value);
            case "filing" -> (x, value) -> x.withdraw(value);
            case "satellite" -> (x, value) -> x.die(value);
            case "harm" -> (x, value) -> x.agree(0, 1, value);
            case "states" -> (x, value) -> x.launch(value, 0, 0, false);
            case "fuel" -> (x, value) -> x.launch(1, 0, value, false);
            case "amount" -> (x, value) -> x.claim(0, value, true, true);
            case "days" -> (x, value) -> x.pass(value);
            case "what of filingOf" -> (x, value) -> x.filingOf(1, value);
            case "what of satelliteOf" -> (x, value) -> x.satelliteOf(0, value);
            default -> throw new IllegalArgumentException("README.md names an argument that is not there: " + name);
        };
    }

    // ---- the calls and the constants

    private static void calls(String readme) throws IOException {
        Due.sentence("The calls, their answers and exceptions");
        Set<String> told = new TreeSet<>();
        Matcher row = ROW.matcher(readme);
        while (row.find()) {
            String letters = row.group(3).strip();
            told.add((row.group(1) + " " + letters).strip());
            Due.answer(row.group(1) + " has an answer", row.group(2).isBlank(), false);
            Due.answer(row.group(1) + " tells what S is for", !row.group(4).isBlank(), letters.endsWith("S"));
        }
        Due.same("all of them", told.toString(), faceOfSource().toString());
        Due.answer("how many they are", told.size(), 26);
    }

    /** The face as the source has it: reflection does not know what the parameters are called. */
    private static Set<String> faceOfSource() throws IOException {
        String source = Files.readString(Path.of("src/main/java/Orbitregister.java"));
        Set<String> face = new TreeSet<>();
        Matcher line = FACE_LINE.matcher(source.replaceAll("\\s+", " "));
        while (line.find()) {
            StringBuilder text = new StringBuilder(line.group(1));
            String exceptions = line.group(2) == null ? "" : line.group(2);
            text.append(exceptions.contains("IndexOutOfBoundsException") ? " B" : "");
            text.append(exceptions.contains("IllegalArgumentException") ? " A" : "");
            text.append(exceptions.contains("IllegalStateException") ? " S" : "");
            face.add(text.toString());
        }
        return face;
    }

    private static void constants(String readme) throws IllegalAccessException {
        Due.sentence("The numbers that are answered by name");
        Set<String> told = new TreeSet<>();
        Matcher constant = CONSTANT.matcher(readme);
        while (constant.find()) {
            told.add(constant.group(1) + " = " + constant.group(2));
        }
        Set<String> due = new TreeSet<>();
        for (Field field : Orbitregister.class.getDeclaredFields()) {
            if (Modifier.isPublic(field.getModifiers())) {
                due.add(field.getName() + " = " + field.get(null));
            }
        }
        Due.same("all of them", told.toString(), due.toString());
    }

    private static void howManyCalls(String readme) {
        Due.sentence("For how many calls");
        Matcher told = Pattern.compile("An object is good for (\\d+) calls").matcher(readme);
        Due.answer("it is told", told.find(), true);
        int calls = Integer.parseInt(told.group(1));
        Due.answer("as many as the document says", calls, 512);
        Orbitregister x = Made.filed(0, 1);
        for (int i = 3; i < calls; i++) {
            x.change(0, i % 360, 1);
        }
        x.withdraw(0);
        Due.answer("the last one", x.stateAnew(0), Orbitregister.LAPSED);
    }

    // ---- the tests

    private static void tests(String readme) throws IOException {
        Due.sentence("How to build the class and run its tests");
        Set<String> told = new TreeSet<>();
        Matcher name = TEST_NAME.matcher(readme);
        while (name.find()) {
            told.add(name.group(1));
        }
        Set<String> due = new TreeSet<>();
        try (Stream<Path> files = Files.list(Path.of("src/test/java"))) {
            files.forEach(file -> due.add(file.getFileName().toString().replace(".java", "")));
        }
        Due.same("all of them", told.toString(), due.toString());
    }

    private static void oneCommand(String readme) {
        Due.sentence("One command builds the class and all tests");
        Due.answer("it is told", readme.contains("\n\n    .ci/run\n\n"), true);
        Due.answer("it can be run", Files.isExecutable(Path.of(".ci/run")), true);
    }
}
