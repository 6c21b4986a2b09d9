import java.io.File;
import java.io.IOException;
import java.lang.reflect.Field;
import java.lang.reflect.Method;
import java.lang.reflect.Modifier;
import java.nio.file.Files;
import java.nio.file.Path;
import java.util.regex.Matcher;
import java.util.regex.Pattern;

/** README.md holds: the answers of its example, and all calls, constants and tests are named. */
public final class ReadmeTest {
    private static final Path README = Path.of("README.md");
    private static final Path TESTS = Path.of("src/test/java");
    private static final Pattern CALL = Pattern.compile("shop\\.(\\w+)\\(([^)]*)\\);\\s+// ([A-Z]+|-?\\d+): .+");

    private static int wrong = 0;

    public static void main(String[] args) throws IOException, ReflectiveOperationException {
        String text = Files.readString(README);
        int calls = example(text);
        names(text);
        System.out.println("ReadmeTest: " + calls + " calls of the example, " + wrong + " not as due");
        if (wrong != 0) {
            System.exit(1);
        }
    }

    private static void complain(String words) {
        wrong++;
        System.out.println("README.md: " + words);
    }

    private static int example(String text) throws ReflectiveOperationException {
        WeftShop shop = new WeftShop();
        int calls = 0;
        for (String line : block(text).split("\n")) {
            if (line.isBlank() || line.equals("WeftShop shop = new WeftShop();")) {
                continue;
            }
            Matcher call = CALL.matcher(line);
            if (!call.matches()) {
                complain("no call with its answer: " + line);
                continue;
            }
            calls++;
            int got = answer(shop, call.group(1), call.group(2));
            if (got != due(call.group(3))) {
                complain("answered " + got + ": " + line);
            }
        }
        if (calls == 0) {
            complain("no example");
        }
        return calls;
    }

    private static String block(String text) {
        Matcher block = Pattern.compile("(?s)```java\n(.*?)```").matcher(text);
        return block.find() ? block.group(1) : "";
    }

    private static int due(String answer) throws ReflectiveOperationException {
        boolean isNumber = answer.matches("-?\\d+");
        return isNumber ? Integer.parseInt(answer) : WeftShop.class.getField(answer).getInt(null);
    }

    private static int answer(WeftShop shop, String name, String words) throws ReflectiveOperationException {
        String[] parts = words.isEmpty() ? new String[0] : words.split(", ");
        Class<?>[] types = new Class<?>[parts.length];
        Object[] values = new Object[parts.length];
        for (int i = 0; i < parts.length; i++) {
            boolean isTruth = parts[i].equals("true") || parts[i].equals("false");
            types[i] = isTruth ? boolean.class : int.class;
            values[i] = isTruth ? (Object) Boolean.valueOf(parts[i]) : (Object) Integer.valueOf(parts[i]);
        }
        return (int) WeftShop.class.getMethod(name, types).invoke(shop, values);
    }

    private static void names(String text) throws IllegalAccessException {
        for (Method method : WeftShop.class.getDeclaredMethods()) {
            if (Modifier.isPublic(method.getModifiers()) && !text.contains("`" + method.getName() + "`")) {
                complain("the call " + method.getName() + " isn't in its table");
            }
        }
        for (Field field : WeftShop.class.getFields()) {
            if (!text.contains("| `" + field.getName() + "` | " + field.getInt(null) + " |")) {
                complain("the constant " + field.getName() + " isn't in its table");
            }
        }
        File[] tests = TESTS.toFile().listFiles();
        for (File test : tests == null ? new File[0] : tests) {
            if (!text.contains("- `" + test.getName().replace(".java", "") + "`: ")) {
                complain("the test " + test.getName() + " isn't named");
            }
        }
    }
}
