import java.io.IOException;
import java.lang.reflect.Field;
import java.lang.reflect.Method;
import java.lang.reflect.Modifier;
import java.nio.file.Files;
import java.nio.file.Path;
import java.util.ArrayList;
import java.util.List;
import java.util.regex.Matcher;
import java.util.regex.Pattern;

/** README.md: its example answers as it tells, and it names all of the face. Runs at the project's root. */
public final class ReadmeTests {
    private static final Check C = new Check("ReadmeTests");
    private static final Pattern EXAMPLE = Pattern.compile("(?s)```java\n(.*?)```");
    private static final Pattern TEXT = Pattern.compile("for \\(char c : \"([^\"]*)\"\\.toCharArray\\(\\)\\) \\{");
    private static final Pattern CALL = Pattern.compile("x\\.(\\w+)\\(([^)]*)\\);\\s*// (-?\\d+)(?:: ([A-Z]+)\\b)?.*");

    public static void main(String[] args) throws ReflectiveOperationException, IOException {
        String page = Files.readString(Path.of("README.md"));
        example(page);
        calls(page);
        constants(page);
        tests(page);
        C.end();
    }

    private static void example(String page) throws ReflectiveOperationException {
        Matcher example = EXAMPLE.matcher(page);
        C.holds("there is an example", example.find());
        BlottedFirst x = new BlottedFirst();
        int answers = 0;
        for (String line : example.group(1).split("\n")) {
            Matcher text = TEXT.matcher(line);
            Matcher call = CALL.matcher(line);
            if (text.matches()) {
                for (char c : text.group(1).toCharArray()) {
                    x.write(c);
                }
            } else if (call.matches()) {
                C.due(line, answer(x, call.group(1), call.group(2)), Long.parseLong(call.group(3)));
                answers++;
                if (call.group(4) != null) {
                    C.due(line, BlottedFirst.class.getField(call.group(4)).getInt(null), Long.parseLong(call.group(3)));
                }
            } else {
                C.holds("a line of the example is looked at: " + line,
                    line.equals("BlottedFirst x = new BlottedFirst();") || line.equals("    x.write(c);") || line.equals("}"));
            }
        }
        C.holds("the example has answers", answers >= 20);
    }

    private static long answer(BlottedFirst x, String name, String told) throws ReflectiveOperationException {
        for (Method m : BlottedFirst.class.getDeclaredMethods()) {
            if (Modifier.isPublic(m.getModifiers()) && m.getName().equals(name)) {
                return ((Number) m.invoke(x, arguments(m.getParameterTypes(), told))).longValue();
            }
        }
        throw new NoSuchMethodException(name);
    }

    private static Object[] arguments(Class<?>[] types, String told) {
        List<Object> all = new ArrayList<>();
        String[] parts = told.isEmpty() ? new String[0] : told.split(", ");
        for (int i = 0; i < types.length && i < parts.length; i++) {
            if (types[i] == boolean.class) {
                all.add(Boolean.valueOf(parts[i]));
            } else if (types[i] == long.class) {
                all.add(Long.valueOf(parts[i]));
            } else {
                all.add(Integer.valueOf(parts[i]));
            }
        }
        return all.toArray();
    }

    /** The table's rows: "| `name(type name, ..)` | .. |", each with the types of the face. */
    private static void calls(String page) {
        int rows = 0;
        for (Method m : BlottedFirst.class.getDeclaredMethods()) {
            if (Modifier.isPublic(m.getModifiers())) {
                List<String> types = new ArrayList<>();
                for (Class<?> type : m.getParameterTypes()) {
                    types.add(type.getName() + " \\w+");
                }
                String row = "\\| `" + m.getName() + "\\(" + String.join(", ", types) + "\\)` \\| [^|]+ \\|";
                C.holds("a row for " + m.getName(), Pattern.compile(row).matcher(page).find());
                rows++;
            }
        }
        int told = 0;
        for (Matcher m = Pattern.compile("(?m)^\\| `\\w+\\(").matcher(page); m.find();) {
            told++;
        }
        C.due("rows of calls", told, rows);
    }

    private static void constants(String page) throws IllegalAccessException {
        for (Field f : BlottedFirst.class.getFields()) {
            C.holds("a row for " + f.getName(), page.contains("| `" + f.getName() + "` | " + f.getInt(null) + " |"));
        }
    }

    private static void tests(String page) throws IOException {
        try (var files = Files.list(Path.of("src/test/java"))) {
            for (Path file : (Iterable<Path>) files::iterator) {
                if (file.getFileName().toString().endsWith("Tests.java")) {
                    C.holds("a row for " + file, page.contains("| `src/test/java/" + file.getFileName() + "` |"));
                }
            }
        }
    }
}
