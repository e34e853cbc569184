import java.io.IOException;
import java.lang.reflect.Method;
import java.lang.reflect.Modifier;
import java.nio.file.DirectoryStream;
import java.nio.file.Files;
import java.nio.file.Path;
import java.util.Set;
import java.util.TreeSet;
import java.util.regex.Matcher;
import java.util.regex.Pattern;

/** Does the calls of README.md's example as they stand there, and holds it to what it says. */
public final class ReadmeTest {
    private static final Pattern EXAMPLE = Pattern.compile("```java\n(.*?)```", Pattern.DOTALL);
    private static final String NEW_OBJECT = "DriftStore store = new DriftStore();";
    private static final Pattern CALL =
        Pattern.compile("store\\.(\\w+)\\(([^)]*)\\); +// ([A-Z]+|-?[0-9]+|2\\^40(?: \\+ 1)?): (.+)");
    private static final Pattern QUOTED = Pattern.compile("\"([^\"]*)\"");
    private static final Pattern CONSTANT = Pattern.compile("`([A-Z]+)`\\s+\\((-[0-9]+)\\)");

    private final Set<String> called = new TreeSet<>();
    private DriftStore store = null;

    public static void main(String[] args) throws IOException, ReflectiveOperationException {
        String readme = Files.readString(Path.of("README.md"));
        new ReadmeTest().examples(readme);
        constants(readme);
        namesEveryTest(readme);
        Check.holds("it says how to run the tests", readme.contains("    .ci/run\n"));
        Check.finish("ReadmeTest");
    }

    private void examples(String readme) throws ReflectiveOperationException {
        Matcher example = EXAMPLE.matcher(readme);
        while (example.find()) {
            store = null;
            for (String line : example.group(1).split("\n")) {
                doLine(line);
            }
        }
        Check.holds("the examples call every method, not only " + called, called.equals(methods()));
    }

    private static Set<String> methods() {
        Set<String> names = new TreeSet<>();
        for (Method method : DriftStore.class.getDeclaredMethods()) {
            if (Modifier.isPublic(method.getModifiers())) {
                names.add(method.getName());
            }
        }
        return names;
    }

    private void doLine(String line) throws ReflectiveOperationException {
        if (line.equals(NEW_OBJECT)) {
            store = new DriftStore();
            return;
        }
        Matcher call = CALL.matcher(line);
        boolean understood = store != null && call.matches();
        Check.holds("a call with its answer: " + line, understood);
        if (understood) {
            String[] given = call.group(2).isEmpty() ? new String[0] : call.group(2).split(", ");
            Check.due(line, answer(call.group(1), given), number(call.group(3)));
            if (call.group(1).equals("feed")) {
                bringsWhatItQuotes(line, given);
            }
        }
    }

    private long answer(String name, String[] given) throws ReflectiveOperationException {
        for (Method method : DriftStore.class.getMethods()) {
            if (method.getName().equals(name) && method.getParameterCount() == given.length) {
                called.add(name);
                return ((Number) method.invoke(store, arguments(method.getParameterTypes(), given))).longValue();
            }
        }
        throw new NoSuchMethodException(name);
    }

    private static Object[] arguments(Class<?>[] types, String[] given) {
        Object[] arguments = new Object[given.length];
        for (int i = 0; i < given.length; i++) {
            boolean yesOrNo = given[i].equals("true") || given[i].equals("false");
            Check.holds(given[i] + " is a " + types[i], yesOrNo == (types[i] == boolean.class));
            if (yesOrNo) {
                arguments[i] = given[i].equals("true");
            } else {
                arguments[i] = Integer.decode(given[i]);
            }
        }
        return arguments;
    }

    private static long number(String told) throws ReflectiveOperationException {
        switch (told) {
            case "2^40":
                return Check.NO_CELL;
            case "2^40 + 1":
                return Check.DENIED_READ;
            default:
                return Character.isUpperCase(told.charAt(0))
                    ? DriftStore.class.getField(told).getInt(null) : Long.parseLong(told);
        }
    }

    /** The text behind a feed is what its ints spell, zeros behind it. */
    private static void bringsWhatItQuotes(String line, String[] given) {
        Matcher quoted = QUOTED.matcher(line);
        Check.holds("a text is told: " + line, quoted.find());
        int[] five = Check.five(quoted.group(1), 0);
        for (int i = 0; i < five.length; i++) {
            Check.due("int " + i + " of " + line, Integer.decode(given[i]), five[i]);
        }
    }

    private static void constants(String readme) throws ReflectiveOperationException {
        Set<String> told = new TreeSet<>();
        Matcher constant = CONSTANT.matcher(readme);
        while (constant.find()) {
            told.add(constant.group(1));
            Check.due(constant.group(), number(constant.group(1)), Long.parseLong(constant.group(2)));
        }
        Check.due("constants told: " + told, told.size(), 4);
    }

    private static void namesEveryTest(String readme) throws IOException {
        try (DirectoryStream<Path> tests = Files.newDirectoryStream(Path.of("src/test/java"), "*Test.java")) {
            for (Path test : tests) {
                String name = test.getFileName().toString().replace(".java", "");
                Check.holds("it names " + name, readme.contains("`" + name + "`"));
            }
        }
    }
}
