import java.io.IOException;
import java.lang.reflect.Field;
import java.lang.reflect.Method;
import java.lang.reflect.Modifier;
import java.net.URL;
import java.net.URLClassLoader;
import java.nio.file.Files;
import java.nio.file.Path;
import java.util.ArrayList;
import java.util.Comparator;
import java.util.List;
import java.util.Set;
import java.util.TreeSet;
import java.util.regex.Matcher;
import java.util.regex.Pattern;
import java.util.stream.Stream;
import javax.tools.JavaCompiler;
import javax.tools.ToolProvider;

/**
 * What README.md shows of a use: its Java, as one program from top to bottom, is compiled and run, and each call
 * answers what stands behind it. All of the face is shown.
 */
public final class ReadmeTest {
    private static final Path README = Path.of("README.md");
    /** A call as a statement of its own, and its answer: a number or a constant, and perhaps a word on it. */
    private static final Pattern CALL = Pattern.compile("^(x\\.(\\w+)\\(.*\\));\\s+// (-?\\d+|[A-Z]+)(: .*)?$");
    private static final String NAME = "ReadmeUse";

    private final String readme;
    private final Set<String> shown = new TreeSet<>();
    private final List<String> calls = new ArrayList<>();
    private final List<Long> due = new ArrayList<>();
    private final StringBuilder program = new StringBuilder();

    private ReadmeTest(String readme) {
        this.readme = readme;
    }

    public static void main(String[] args) throws IOException, ReflectiveOperationException {
        ReadmeTest test = new ReadmeTest(Files.readString(README));
        test.write();
        test.compare(test.run());
        test.allShown();
        Check.end();
    }

    private void write() throws ReflectiveOperationException {
        program.append("public final class ").append(NAME).append(" {\npublic static void use(java.util.List<Long> answers) {\n");
        Matcher blocks = Pattern.compile("(?s)```java\\n(.*?)```").matcher(readme);
        while (blocks.find()) {
            for (String line : blocks.group(1).split("\n")) {
                program.append(noted(line)).append('\n');
            }
        }
        program.append("}\n}\n");
    }

    /** A call with an answer is noted; any other line is as it stands, but it must be no call by itself. */
    private String noted(String line) throws ReflectiveOperationException {
        Matcher m = CALL.matcher(line);
        if (!m.matches()) {
            Check.due("README.md: '" + line + "' without an answer", line.startsWith("x.") ? 1 : 0, 0);
            return line;
        }
        shown.add(m.group(2));
        shown.add(m.group(3));
        calls.add(m.group(1));
        due.add(valueOf(m.group(3)));
        return "answers.add(0L + " + m.group(1) + ");";
    }

    private static long valueOf(String answer) throws ReflectiveOperationException {
        boolean named = Character.isLetter(answer.charAt(0));
        return named ? TownRepeated.class.getField(answer).getInt(null) : Long.parseLong(answer);
    }

    private List<Long> run() throws IOException, ReflectiveOperationException {
        List<Long> answers = new ArrayList<>();
        JavaCompiler compiler = ToolProvider.getSystemJavaCompiler();
        Path folder = Files.createTempDirectory("readme");
        try {
            Path file = folder.resolve(NAME + ".java");
            Files.writeString(file, program);
            int code = compiler.run(null, null, null, "-Xlint:all", "-Werror", "-cp", System.getProperty("java.class.path"),
                "-d", folder.toString(), file.toString());
            Check.due("README.md compiles", code, 0);
            if (code == 0) {
                use(folder, answers);
            }
        } finally {
            remove(folder);
        }
        return answers;
    }

    private static void use(Path folder, List<Long> answers) throws IOException, ReflectiveOperationException {
        URL[] where = {folder.toUri().toURL()};
        try (URLClassLoader loader = new URLClassLoader(where, ReadmeTest.class.getClassLoader())) {
            loader.loadClass(NAME).getMethod("use", List.class).invoke(null, answers);
        }
    }

    private static void remove(Path folder) throws IOException {
        try (Stream<Path> all = Files.walk(folder)) {
            for (Path path : all.sorted(Comparator.reverseOrder()).toList()) {
                Files.delete(path);
            }
        }
    }

    private void compare(List<Long> answers) {
        Check.due("README.md: calls made", answers.size(), calls.size());
        for (int i = 0; i < answers.size(); i++) {
            Check.due("README.md: " + calls.get(i), answers.get(i), due.get(i));
        }
    }

    private void allShown() throws IllegalAccessException {
        for (Method m : TownRepeated.class.getDeclaredMethods()) {
            if (Modifier.isPublic(m.getModifiers())) {
                Check.due("README.md shows " + m.getName(), shown.contains(m.getName()) ? 1 : 0, 1);
            }
        }
        for (Field f : TownRepeated.class.getFields()) {
            Matcher row = Pattern.compile("\\| `" + f.getName() + "` *\\| (-\\d+) *\\|").matcher(readme);
            Check.due("README.md says " + f.getName(), row.find() ? Long.parseLong(row.group(1)) : 0, f.getInt(null));
        }
        for (String answer : List.of("BAD", "FULL", "FINDING", "STATE", "NONE")) {
            Check.due("README.md shows " + answer, shown.contains(answer) ? 1 : 0, 1);
        }
    }
}
