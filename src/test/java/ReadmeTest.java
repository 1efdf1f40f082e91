import java.io.IOException;
import java.lang.reflect.InvocationTargetException;
import java.lang.reflect.Method;
import java.lang.reflect.Modifier;
import java.nio.file.Files;
import java.nio.file.Path;
import java.util.ArrayList;
import java.util.List;
import java.util.regex.Matcher;
import java.util.regex.Pattern;
import java.util.stream.Stream;

/** README.md: its run of calls has the answers that it tells, its texts have no fault, and it names every call and test. */
public final class ReadmeTest {
    private static final Pattern CALL = Pattern.compile("x\\.(\\w+)\\(([^)]*)\\);\\s*// (-?\\w+): (.*)");
    private static final Pattern TEXT = Pattern.compile("\\| ([012]) \\| `([^`]+)` \\|.*");
    private static final Pattern TOLD = Pattern.compile("\"([^\"]+)\"");
    private static final Check CHECK = new Check();

    private static Method named(String name) {
        for (Method method : LawnAhead.class.getDeclaredMethods()) {
            if (method.getName().equals(name) && Modifier.isPublic(method.getModifiers())) {
                return method;
            }
        }
        throw new IllegalArgumentException(name);
    }

    private static Object[] numbers(String list) {
        List<Object> all = new ArrayList<>();
        for (String one : list.split(",")) {
            if (!one.isBlank()) {
                all.add((int) (long) Long.decode(one.trim()));
            }
        }
        return all.toArray();
    }

    private static void runs(List<String> lines) throws ReflectiveOperationException {
        LawnAhead x = new LawnAhead();
        int calls = 0;
        for (String line : lines) {
            Matcher call = CALL.matcher(line);
            if (call.matches()) {
                calls++;
                String got = String.valueOf(named(call.group(1)).invoke(x, numbers(call.group(2))));
                CHECK.due(line + " answered " + got, got.equals(call.group(3)), true);
                Matcher told = TOLD.matcher(call.group(4));
                if (told.find()) {
                    CHECK.due(line + " is that text", tapeIs(told.group(1), numbers(call.group(2))), true);
                }
            }
        }
        CHECK.due("calls in the README", calls, lines.stream().filter(line -> line.startsWith("x.")).count());
    }

    private static boolean tapeIs(String text, Object[] numbers) {
        int[] due = Check.packed(text, 0);
        for (int i = 0; i < due.length; i++) {
            if (!numbers[i].equals(due[i])) {
                return false;
            }
        }
        return true;
    }

    private static void texts(List<String> lines) {
        int texts = 0;
        for (String line : lines) {
            Matcher text = TEXT.matcher(line);
            if (text.matches()) {
                texts++;
                CHECK.due("fault of " + text.group(2), Check.faultOf(Integer.parseInt(text.group(1)), text.group(2)), -1);
            }
        }
        CHECK.due("texts in the README", texts, 3);
    }

    private static void names(List<String> lines) throws IOException {
        String all = String.join("\n", lines);
        for (Method method : LawnAhead.class.getDeclaredMethods()) {
            if (Modifier.isPublic(method.getModifiers())) {
                CHECK.due("the README names " + method.getName(), all.contains("`" + method.getName() + "`"), true);
            }
        }
        try (Stream<Path> files = Files.list(Path.of("src/test/java"))) {
            files.map(file -> file.getFileName().toString()).filter(name -> name.endsWith("Test.java")).forEach(name ->
                CHECK.due("the README names " + name, all.contains("| " + name.replace(".java", "") + " |"), true));
        }
    }

    public static void main(String[] args) throws IOException, ReflectiveOperationException {
        List<String> lines = Files.readAllLines(Path.of("README.md"));
        try {
            runs(lines);
        } catch (InvocationTargetException e) {
            CHECK.due("a call of the README throws " + e.getCause(), true, false);
        }
        texts(lines);
        names(lines);
        CHECK.finish();
    }
}
