import java.lang.reflect.InvocationTargetException;
import java.lang.reflect.Method;
import java.lang.reflect.Modifier;
import java.nio.file.Files;
import java.nio.file.Path;
import java.util.ArrayList;
import java.util.List;
import java.util.regex.Matcher;
import java.util.regex.Pattern;
import java.util.stream.Stream;

/** The calls of README.md answer as it says, and it names each call and each test. Run where README.md is. */
public final class ReadmeTest {
    private static final Pattern BLOCK = Pattern.compile("(?s)```java\n(.*?)```");
    private static final Pattern NEW = Pattern.compile("StairsInSteps x = new StairsInSteps\\(\\);");
    private static final Pattern CALL = Pattern.compile("x\\.(\\w+)\\((.*?)\\); +// (-?\\w+)\\b.*");
    private static final int FEWEST_CALLS = 40;
    private static int wrong = 0;
    private static int calls = 0;

    public static void main(String[] args) throws Exception {
        String readme = Files.readString(Path.of("README.md"));
        answersAreAsTold(readme);
        callsAreNamed(readme);
        testsAreNamed(readme);
        System.out.println(wrong == 0 ? calls + " calls of README.md answer as it says" : wrong + " things are not as due");
        if (wrong != 0) {
            System.exit(1);
        }
    }

    private static void fail(String what) {
        wrong++;
        System.out.println("README.md: " + what);
    }

    private static void answersAreAsTold(String readme) throws Exception {
        StairsInSteps x = null;
        Matcher block = BLOCK.matcher(readme);
        while (block.find()) {
            for (String line : block.group(1).split("\n")) {
                Matcher call = CALL.matcher(line);
                if (NEW.matcher(line).matches()) {
                    x = new StairsInSteps();
                } else if (x == null || !call.matches()) {
                    fail("can't be read: " + line);
                } else {
                    calls++;
                    String got = answer(x, call.group(1), call.group(2));
                    if (!got.equals(call.group(3))) {
                        fail(line + " answered " + got);
                    }
                }
            }
        }
        if (calls < FEWEST_CALLS) {
            fail("has only " + calls + " calls");
        }
    }

    private static String answer(StairsInSteps x, String name, String values) throws Exception {
        Method method = methodOf(name);
        if (method == null) {
            return "no such call";
        }
        List<Object> given = new ArrayList<>();
        for (String value : values.isEmpty() ? new String[0] : values.split(", ")) {
            given.add(value.equals("true") || value.equals("false") ? (Object) Boolean.valueOf(value) : (Object) Integer.decode(value));
        }
        try {
            return String.valueOf(method.invoke(x, given.toArray()));
        } catch (InvocationTargetException e) {
            return e.getCause().getClass().getSimpleName();
        }
    }

    private static Method methodOf(String name) {
        for (Method method : StairsInSteps.class.getDeclaredMethods()) {
            if (method.getName().equals(name) && Modifier.isPublic(method.getModifiers())) {
                return method;
            }
        }
        return null;
    }

    private static void callsAreNamed(String readme) {
        for (Method method : StairsInSteps.class.getDeclaredMethods()) {
            if (Modifier.isPublic(method.getModifiers()) && !readme.contains("`" + method.getName() + "(")) {
                fail("does not name " + method.getName());
            }
        }
    }

    private static void testsAreNamed(String readme) throws Exception {
        if (!readme.contains("bash .ci/run") || !readme.contains("../shared/tests")) {
            fail("does not say how the tests are run");
        }
        try (Stream<Path> files = Files.list(Path.of("src/test/java"))) {
            for (Path file : (Iterable<Path>) files::iterator) {
                String name = file.getFileName().toString().replace(".java", "");
                if (!readme.contains("`" + name + "`")) {
                    fail("does not name " + name);
                }
            }
        }
    }
}
