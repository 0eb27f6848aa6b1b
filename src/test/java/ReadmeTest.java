import java.io.IOException;
import java.lang.reflect.Field;
import java.lang.reflect.Method;
import java.lang.reflect.Modifier;
import java.net.URL;
import java.net.URLClassLoader;
import java.nio.file.Files;
import java.nio.file.Path;
import java.util.ArrayList;
import java.util.List;
import java.util.regex.Matcher;
import java.util.regex.Pattern;
import javax.tools.JavaCompiler;
import javax.tools.ToolProvider;

/** The examples of README.md, put together to one program, return and throw what stands behind them. */
public final class ReadmeTest {
    private static final String NAME = "Example";
    private static final Pattern RETURNS = Pattern.compile("(\\S.*);\\s+// = ([^:]+)(:.*)?");
    private static final Pattern THROWS = Pattern.compile("(\\S.*);\\s+// throws (\\w+)");

    private ReadmeTest() {
    }

    public static void main(String[] args) throws Exception {
        List<String> readme = Files.readAllLines(Path.of("README.md"));
        dueAllNamed(String.join("\n", readme));
        List<String> examples = examplesIn(readme);
        List<String[]> rows = outcomes(programOf(examples));
        Check.due("README.md: examples that were looked at", rows.size(), toldIn(examples));
        for (String[] row : rows) {
            Check.due("README.md: " + row[0], row[1], row[2]);
        }
        Check.end();
    }

    private static void dueAllNamed(String readme) {
        for (Method method : Dataroom.class.getDeclaredMethods()) {
            if (Modifier.isPublic(method.getModifiers())) {
                boolean named = readme.contains("room." + method.getName() + "(");
                Check.due("README.md: an example of " + method.getName(), named, true);
            }
        }
        for (Field constant : Dataroom.class.getFields()) {
            boolean named = readme.matches("(?s).*\\b" + constant.getName() + "\\b.*");
            Check.due("README.md: " + constant.getName() + " named", named, true);
        }
    }

    private static List<String> examplesIn(List<String> readme) {
        List<String> examples = new ArrayList<>();
        boolean inside = false;
        for (String line : readme) {
            if (line.startsWith("```")) {
                inside = line.equals("```java");
            } else if (inside) {
                examples.add(line);
            }
        }
        return examples;
    }

    /** In how many lines something is told of what is returned or thrown. */
    private static int toldIn(List<String> examples) {
        int told = 0;
        for (String line : examples) {
            told += line.contains("// =") || line.contains("// throws") ? 1 : 0;
        }
        return told;
    }

    private static String programOf(List<String> examples) {
        StringBuilder program = new StringBuilder();
        program.append("public final class ").append(NAME).append(" {\n");
        program.append("public static void run(java.util.List<String[]> rows) {\n");
        for (String line : examples) {
            program.append(statementOf(line)).append('\n');
        }
        return program.append("}\n}\n").toString();
    }

    private static String statementOf(String line) {
        Matcher returns = RETURNS.matcher(line);
        if (returns.matches()) {
            String call = returns.group(1);
            return row(call, "String.valueOf(" + call + ")", "String.valueOf(" + returns.group(2) + ")");
        }
        Matcher thrown = THROWS.matcher(line);
        if (thrown.matches()) {
            String call = thrown.group(1);
            String due = "\"" + thrown.group(2) + "\"";
            return "try { " + call + "; " + row(call, "\"nothing thrown\"", due) + " } "
                    + "catch (RuntimeException e) { " + row(call, "e.getClass().getSimpleName()", due) + " }";
        }
        return line;
    }

    private static String row(String call, String got, String due) {
        return "rows.add(new String[] {\"" + call + "\", " + got + ", " + due + "});";
    }

    private static List<String[]> outcomes(String program) throws IOException, ReflectiveOperationException {
        Path directory = Files.createTempDirectory("readme");
        Path source = directory.resolve(NAME + ".java");
        Path compiled = directory.resolve(NAME + ".class");
        try {
            Files.writeString(source, program);
            JavaCompiler compiler = ToolProvider.getSystemJavaCompiler();
            String path = System.getProperty("java.class.path");
            int failed = compiler.run(null, null, null, "-cp", path, "-d", directory.toString(), source.toString());
            Check.due("README.md: the examples compile", failed, 0);
            return failed == 0 ? outcomesOf(directory) : List.of();
        } finally {
            Files.deleteIfExists(compiled);
            Files.deleteIfExists(source);
            Files.deleteIfExists(directory);
        }
    }

    private static List<String[]> outcomesOf(Path directory) throws IOException, ReflectiveOperationException {
        List<String[]> rows = new ArrayList<>();
        try (URLClassLoader loader = new URLClassLoader(new URL[] {directory.toUri().toURL()})) {
            loader.loadClass(NAME).getMethod("run", List.class).invoke(null, rows);
        }
        return rows;
    }
}
