import java.io.IOException;
import java.lang.reflect.InvocationTargetException;
import java.lang.reflect.Method;
import java.lang.reflect.Modifier;
import java.nio.file.Files;
import java.nio.file.Path;
import java.util.Set;
import java.util.TreeSet;
import java.util.regex.Matcher;
import java.util.regex.Pattern;

/** README.md says what the class does: its example answers as it tells, and no call of the face is left out. */
public final class ReadmeTest {
    private static final Pattern MAKING = Pattern.compile("YardStacks yard = new YardStacks\\((.*)\\);");
    private static final Pattern CALL =
        Pattern.compile("yard\\.(\\w+)\\(([^)]*)\\);\\s+// (throws \\w+|true|false|-?\\d+)(:.*)?");

    private static int checks = 0;
    private static int wrong = 0;

    public static void main(String[] args) throws IOException {
        String text = Files.readString(Path.of("README.md"));
        runExample(text);
        lookForEveryCall(text);
        System.out.println("ReadmeTest: " + checks + " checks, " + wrong + " wrong");
        if (wrong != 0) {
            System.exit(1);
        }
    }

    private static void due(String what, Object want, Object got) {
        checks++;
        if (!want.equals(got)) {
            wrong++;
            System.out.println(what + ": " + got + ", due is " + want);
        }
    }

    private static void runExample(String text) {
        Matcher block = Pattern.compile("```java\n(.*?)```", Pattern.DOTALL).matcher(text);
        due("README.md has an example", true, block.find());
        YardStacks yard = null;
        Set<String> called = new TreeSet<>();
        for (String line : block.group(1).split("\n")) {
            Matcher making = MAKING.matcher(line);
            Matcher call = CALL.matcher(line);
            if (making.matches()) {
                Object[] numbers = numbers(making.group(1));
                yard = new YardStacks((Integer) numbers[0], (Integer) numbers[1], (Integer) numbers[2]);
            } else if (call.matches()) {
                called.add(call.group(1));
                due(line, call.group(3), answer(yard, call.group(1), numbers(call.group(2))));
            } else {
                due("a line of the example that can be run", true, line);
            }
        }
        due("the calls of the example", names(), called);
    }

    private static Object[] numbers(String list) {
        if (list.isEmpty()) {
            return new Object[0];
        }
        String[] parts = list.split(", ");
        Object[] numbers = new Object[parts.length];
        for (int i = 0; i < parts.length; i++) {
            numbers[i] = Integer.valueOf(parts[i]);
        }
        return numbers;
    }

    private static String answer(YardStacks yard, String name, Object[] numbers) {
        for (Method m : YardStacks.class.getDeclaredMethods()) {
            if (m.getName().equals(name) && m.getParameterCount() == numbers.length) {
                return answer(yard, m, numbers);
            }
        }
        return "no such call";
    }

    private static String answer(YardStacks yard, Method m, Object[] numbers) {
        try {
            return String.valueOf(m.invoke(yard, numbers));
        } catch (InvocationTargetException e) {
            return "throws " + e.getCause().getClass().getSimpleName();
        } catch (IllegalAccessException e) {
            return "not public";
        }
    }

    private static Set<String> names() {
        Set<String> names = new TreeSet<>();
        for (Method m : YardStacks.class.getDeclaredMethods()) {
            if (Modifier.isPublic(m.getModifiers())) {
                names.add(m.getName());
            }
        }
        return names;
    }

    private static void lookForEveryCall(String text) {
        due("a row for the constructor", true, text.contains("| `new YardStacks(rows, tiers, bears)` |"));
        for (String name : names()) {
            due("a row for " + name, true, text.contains("| `" + name + "("));
        }
        for (String name : new String[] {"PromisesTest", "BoundariesTest", "ModelTest", "FaceTest", "ReadmeTest"}) {
            due("a word on " + name, true, text.contains("- `" + name + "`"));
        }
    }
}
