import java.io.IOException;
import java.lang.reflect.InvocationTargetException;
import java.lang.reflect.Method;
import java.lang.reflect.Modifier;
import java.nio.file.Files;
import java.nio.file.Path;
import java.util.List;
import java.util.TreeSet;
import java.util.regex.Matcher;
import java.util.regex.Pattern;

/** What README.md says: each call of its examples answers what stands behind it; every call and every test is named. */
final class ReadmeTest {
    private static final Path README = Path.of("README.md");
    private static final Path TESTS = Path.of("src/test/java");
    private static final String MAKE = "KwicStore x = new KwicStore();";
    private static final Pattern CALL = Pattern.compile("x\\.(\\w+)\\((.*)\\); +// (-?\\w+)(: .+)?");
    private static final Check CHECK = new Check("ReadmeTest");
    private static KwicStore x;
    private static int calls;

    public static void main(String[] args) throws IOException, IllegalAccessException {
        List<String> lines = Files.readAllLines(README);
        examples(lines);
        namesEveryCall(String.join("\n", lines));
        namesEveryTest(String.join("\n", lines));
        CHECK.finish();
    }

    private static void examples(List<String> lines) throws IllegalAccessException {
        boolean inside = false;
        int examples = 0;
        for (String line : lines) {
            if (line.startsWith("```")) {
                inside = line.equals("```java");
                examples += inside ? 1 : 0;
            } else if (inside) {
                example(line.strip());
            }
        }
        CHECK.due("there are examples", examples > 0, true);
        CHECK.due("the last object is used for at most 512 calls", calls <= 512, true);
    }

    private static void example(String line) throws IllegalAccessException {
        if (line.equals(MAKE)) {
            x = new KwicStore();
            calls = 0;
            return;
        }
        Matcher call = CALL.matcher(line);
        boolean readable = call.matches() && x != null;
        CHECK.due("a call with its answer: " + line, readable, true);
        if (readable) {
            String got = answer(call.group(1), call.group(2));
            CHECK.due(line + " answers " + got, got.equals(call.group(3)), true);
        }
        calls++;
    }

    private static String answer(String name, String written) throws IllegalAccessException {
        String[] words = written.isEmpty() ? new String[0] : written.split(", ");
        for (Method method : KwicStore.class.getMethods()) {
            if (method.getName().equals(name) && method.getParameterCount() == words.length) {
                try {
                    return String.valueOf(method.invoke(x, arguments(method, words)));
                } catch (InvocationTargetException e) {
                    return e.getCause().getClass().getSimpleName();
                }
            }
        }
        return "no such call";
    }

    private static Object[] arguments(Method method, String[] words) {
        Class<?>[] types = method.getParameterTypes();
        Object[] arguments = new Object[words.length];
        for (int i = 0; i < words.length; i++) {
            if (types[i] == boolean.class) {
                arguments[i] = Boolean.valueOf(words[i]);
            } else if (types[i] == long.class) {
                arguments[i] = Long.valueOf(words[i].replace("L", ""));
            } else {
                arguments[i] = (int) (long) Long.decode(words[i]);
            }
        }
        return arguments;
    }

    private static void namesEveryCall(String text) {
        for (Method method : KwicStore.class.getDeclaredMethods()) {
            if (Modifier.isPublic(method.getModifiers())) {
                CHECK.due("it names " + method.getName(), text.contains("`" + method.getName() + "`"), true);
            }
        }
    }

    private static void namesEveryTest(String text) throws IOException {
        TreeSet<String> names = new TreeSet<>();
        try (var files = Files.list(TESTS)) {
            files.forEach(file -> names.add(file.getFileName().toString().replace(".java", "")));
        }
        for (String name : names) {
            boolean runs = name.endsWith("Test");
            CHECK.due("it names " + name, !runs || text.contains("`" + name + "`"), true);
        }
        CHECK.due("it says how to run the tests", text.contains("`.ci/run`"), true);
    }
}
