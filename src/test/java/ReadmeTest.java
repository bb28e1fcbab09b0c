import java.io.IOException;
import java.lang.reflect.Method;
import java.lang.reflect.Modifier;
import java.nio.file.Files;
import java.nio.file.Path;
import java.util.regex.Matcher;
import java.util.regex.Pattern;

/** README.md: its examples answer what stands behind them, and each call and each test of the project has its row. */
public final class ReadmeTest extends Checks {
    private static final Pattern CALL = Pattern.compile("pens\\.(\\w+)\\((.*)\\);\\s+// (-?\\d+|'.')(:.*)?");

    private static String readme;

    /** A number, or a character between two quotes. */
    private static int value(String written) {
        return written.startsWith("'") ? written.charAt(1) : Integer.parseInt(written);
    }

    private static int answer(ManyPens pens, String name, String arguments) throws ReflectiveOperationException {
        String[] written = arguments.isEmpty() ? new String[0] : arguments.split(", ");
        Class<?>[] types = new Class<?>[written.length];
        Object[] values = new Object[written.length];
        for (int i = 0; i < written.length; i++) {
            types[i] = int.class;
            values[i] = value(written[i]);
        }
        return (Integer) ManyPens.class.getMethod(name, types).invoke(pens, values);
    }

    private static void example(String block) throws ReflectiveOperationException {
        ManyPens pens = new ManyPens();
        for (String line : block.split("\n")) {
            Matcher call = CALL.matcher(line);
            if (call.matches()) {
                due(README, line, answer(pens, call.group(1), call.group(2)), value(call.group(3)));
            } else {
                due(README, "an example begins so: " + line, line.equals("ManyPens pens = new ManyPens();"), true);
            }
        }
    }

    private static void examples() throws ReflectiveOperationException {
        Matcher blocks = Pattern.compile("(?s)```java\n(.*?)\n```").matcher(readme);
        int found = 0;
        while (blocks.find()) {
            example(blocks.group(1));
            found++;
        }
        due(README, "examples", found, 3);
    }

    private static void rowOfEachCall() {
        for (Method method : ManyPens.class.getDeclaredMethods()) {
            if (Modifier.isPublic(method.getModifiers())) {
                Matcher row = Pattern.compile("(?m)^\\| `" + method.getName() + "\\(([^)]*)\\)` \\|").matcher(readme);
                boolean found = row.find();
                due(README, "a row of " + method.getName(), found, true);
                int named = !found || row.group(1).isEmpty() ? 0 : row.group(1).split(", ").length;
                due(README, "parameters of " + method.getName(), named, method.getParameterCount());
            }
        }
    }

    private static void eachTestIsNamed() {
        String[] tests = Path.of("src/test/java").toFile().list();
        for (String test : tests == null ? new String[0] : tests) {
            String name = test.replace(".java", "");
            due(README, "tells of " + name, readme.contains("`" + name + "`"), true);
        }
    }

    public static void main(String[] args) throws IOException, ReflectiveOperationException {
        readme = Files.readString(Path.of("README.md"));
        examples();
        rowOfEachCall();
        eachTestIsNamed();
        end();
    }
}
