import java.lang.reflect.Method;
import java.lang.reflect.Modifier;
import java.nio.file.Files;
import java.nio.file.Path;
import java.util.HashSet;
import java.util.Set;
import java.util.regex.Matcher;
import java.util.regex.Pattern;

/** What README.md says: its example is run, and it names all that the class has. */
public final class ReadmeTest {
    private static final Due due = new Due();
    private static final Pattern EXAMPLE = Pattern.compile("(?s)```java\n(.*?)```");
    private static final Pattern CALL =
            Pattern.compile("x\\.(\\w+)\\(([^)]*)\\);\\s*// (-?\\d+): .*");
    private static final Pattern ROW = Pattern.compile("(?m)^\\| `int (\\w+)\\(([^)]*)\\)` \\|");
    private static final Pattern CONSTANT = Pattern.compile("(?m)^\\| `(\\w+) = (-\\d+)` \\|");
    private static final Pattern COMMAND = Pattern.compile("(?s)```sh\nbash (\\S+)\n```");

    public static void main(String[] args) throws Exception {
        String page = Files.readString(Path.of("README.md"));
        example(page);
        calls(page);
        constants(page);
        command(page);
        tests(page);
        due.end();
    }

    private static void example(String page) throws Exception {
        due.promise("README.md, the example");
        Matcher block = EXAMPLE.matcher(page);
        due.holds("is there", block.find());
        String[] lines = block.group(1).split("\n");
        due.holds("begins with a new object",
                lines[0].startsWith("NightStalls x = new NightStalls();"));
        NightStalls x = new NightStalls();
        Set<String> made = new HashSet<>();
        for (int i = 1; i < lines.length; i++) {
            Matcher call = CALL.matcher(lines[i]);
            due.holds("is a call with its answer: " + lines[i], call.matches());
            made.add(call.group(1));
            due.is(lines[i], answer(x, call.group(1), call.group(2)),
                    Integer.parseInt(call.group(3)));
        }
        for (Method m : NightStalls.class.getDeclaredMethods()) {
            if (Modifier.isPublic(m.getModifiers())) {
                due.holds("has " + m.getName(), made.contains(m.getName()));
            }
        }
    }

    private static int answer(NightStalls x, String name, String written) throws Exception {
        String[] parts = written.isEmpty() ? new String[0] : written.split(", ");
        for (Method m : NightStalls.class.getDeclaredMethods()) {
            if (m.getName().equals(name) && m.getParameterCount() == parts.length) {
                Object[] values = new Object[parts.length];
                for (int i = 0; i < parts.length; i++) {
                    values[i] = m.getParameterTypes()[i] == boolean.class
                            ? (Object) Boolean.valueOf(parts[i]) : Integer.valueOf(parts[i]);
                }
                return (int) m.invoke(x, values);
            }
        }
        throw new IllegalStateException("README.md calls " + name + "(" + written + ")");
    }

    /** The rows tell each call once, with its types in their order. */
    private static void calls(String page) {
        due.promise("README.md, the calls");
        Set<String> told = new HashSet<>();
        Matcher row = ROW.matcher(page);
        while (row.find()) {
            due.holds(row.group(1) + " is told once",
                    told.add(row.group(1) + " " + row.group(2).replaceAll(" \\w+(,|$)", "$1")));
        }
        for (Method m : NightStalls.class.getDeclaredMethods()) {
            if (Modifier.isPublic(m.getModifiers())) {
                StringBuilder text = new StringBuilder(m.getName()).append(' ');
                for (int i = 0; i < m.getParameterCount(); i++) {
                    text.append(i == 0 ? "" : ", ").append(m.getParameterTypes()[i].getName());
                }
                due.holds("has " + text, told.remove(text.toString()));
            }
        }
        due.holds("has no other: " + told, told.isEmpty());
    }

    private static void constants(String page) throws Exception {
        due.promise("README.md, the constants");
        int told = 0;
        Matcher row = CONSTANT.matcher(page);
        while (row.find()) {
            told++;
            due.is(row.group(1), NightStalls.class.getField(row.group(1)).getInt(null),
                    Integer.parseInt(row.group(2)));
        }
        due.is("how many", told, NightStalls.class.getFields().length);
    }

    private static void command(String page) {
        due.promise("README.md, how to run the tests");
        Matcher command = COMMAND.matcher(page);
        due.holds("a command is named", command.find());
        due.holds(command.group(1) + " is there and may be run",
                Files.isExecutable(Path.of(command.group(1))));
    }

    /** The table of tests names each that .ci/run finds. */
    private static void tests(String page) throws Exception {
        due.promise("README.md, the tests");
        try (var files = Files.list(Path.of("src/test/java"))) {
            for (Path file : files.toList()) {
                String name = file.getFileName().toString().replace(".java", "");
                if (name.endsWith("Test")) {
                    due.holds("names " + name, page.contains("| `" + name + "` |"));
                }
            }
        }
    }
}
