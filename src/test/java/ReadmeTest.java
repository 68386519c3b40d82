import java.io.IOException;
import java.lang.reflect.Method;
import java.nio.file.Files;
import java.nio.file.Path;
import java.util.HashMap;
import java.util.Map;
import java.util.Set;
import java.util.TreeSet;
import java.util.regex.Matcher;
import java.util.regex.Pattern;

/** What README.md says is so: its calls answer what stands behind them, and what it names is there. */
public final class ReadmeTest {
    private static final Check check = new Check("ReadmeTest");
    private static final Pattern BLOCK = Pattern.compile("```java\\n(.*?)```", Pattern.DOTALL);
    private static final Pattern CALL = Pattern.compile("(?:int (\\w+) = )?house\\.(\\w+)\\(([^)]*)\\); *(?://(.*))?");
    private static final Pattern ANSWER = Pattern.compile(" (-?\\d+|true|false)(?::.*)?");
    private static final Pattern LAID_OUT = Pattern.compile("(?m)^- ((?:`\\w+`(?:, )?)+):");
    private static final Pattern NAMED = Pattern.compile("`(\\w+)`");
    private static final Pattern TEST_NAME = Pattern.compile("`(\\w+Test)`");
    private static final Map<String, Long> numbers = new HashMap<>();

    public static void main(String[] args) throws ReflectiveOperationException, IOException {
        String readme = Files.readString(Path.of("README.md"));
        examples(readme);
        classes(readme);
        tests(readme);
        check.end();
    }

    private static void examples(String readme) throws ReflectiveOperationException {
        HandleHouse house = check.fresh("the examples");
        Set<String> used = new TreeSet<>();
        Matcher blocks = BLOCK.matcher(readme);
        while (blocks.find()) {
            for (String line : blocks.group(1).split("\n")) {
                Matcher call = CALL.matcher(line);
                if (call.matches()) {
                    example(house, call);
                    used.add(call.group(2));
                } else {
                    check.due(line, line.equals("HandleHouse house = new HandleHouse();"), true);
                }
            }
        }
        check.due("methods that are used", used.size(), Check.publicMethods());
    }

    private static void example(HandleHouse house, Matcher call) throws ReflectiveOperationException {
        Method method = methodNamed(call.group(2));
        String[] words = call.group(3).isEmpty() ? new String[0] : call.group(3).split(", ");
        Object[] values = new Object[words.length];
        for (int i = 0; i < words.length; i++) {
            values[i] = value(words[i], method.getParameterTypes()[i]);
        }
        Object answer = method.invoke(house, values);
        if (answer == null) {
            return;
        }
        long number = answer instanceof Boolean truth ? truth ? 1 : 0 : ((Number) answer).longValue();
        Matcher told = ANSWER.matcher(call.group(4) == null ? "" : call.group(4));
        boolean isTold = told.matches();
        check.due(call.group() + ": its answer is told", isTold, true);
        if (isTold) {
            check.due(call.group(), number, (Long) value(told.group(1), long.class));
        }
        if (call.group(1) != null) {
            numbers.put(call.group(1), number);
        }
    }

    private static Method methodNamed(String name) {
        for (Method method : HandleHouse.class.getDeclaredMethods()) {
            if (method.getName().equals(name)) {
                return method;
            }
        }
        throw new IllegalStateException("README.md calls " + name + "(), which isn't there");
    }

    private static Object value(String word, Class<?> type) {
        if (type == boolean.class) {
            return word.equals("true");
        }
        if (word.equals("true") || word.equals("false")) {
            return word.equals("true") ? 1L : 0L;
        }
        Long named = numbers.get(word);
        long number = named != null ? named : Long.decode(word);
        if (type == int.class) {
            return (int) number;
        }
        return number;
    }

    /** The classes that it lays out are those that there are. */
    private static void classes(String readme) {
        check.fresh("the classes");
        Set<String> told = new TreeSet<>();
        Matcher lines = LAID_OUT.matcher(readme);
        while (lines.find()) {
            Matcher names = NAMED.matcher(lines.group(1));
            while (names.find()) {
                told.add(names.group(1));
            }
        }
        told.removeIf(name -> name.endsWith("Test"));
        Set<String> there = new TreeSet<>();
        for (Class<?> inside : HandleHouse.class.getDeclaredClasses()) {
            there.add(inside.getSimpleName());
        }
        check.due(told + " are " + there, told.equals(there), true);
    }

    /** The tests that it names, and how they are run, are there. */
    private static void tests(String readme) {
        check.fresh("the tests");
        Matcher names = TEST_NAME.matcher(readme);
        while (names.find()) {
            check.due(names.group(1), Files.exists(Path.of("src/test/java", names.group(1) + ".java")), true);
        }
        check.due("how they are run", readme.contains("\n    bash .ci/run\n"), true);
        check.due("the script can be run", Files.isExecutable(Path.of(".ci/run")), true);
    }
}
