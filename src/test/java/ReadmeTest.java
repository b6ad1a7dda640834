import java.io.File;
import java.io.IOException;
import java.lang.reflect.Method;
import java.lang.reflect.Modifier;
import java.net.URL;
import java.net.URLClassLoader;
import java.nio.file.Files;
import java.nio.file.Path;
import java.util.ArrayList;
import java.util.List;
import java.util.Set;
import java.util.TreeSet;
import java.util.regex.Matcher;
import java.util.regex.Pattern;
import javax.tools.JavaCompiler;
import javax.tools.ToolProvider;

/** What README.md says of the class and of its tests is so: its example is compiled and run with its answers. */
public final class ReadmeTest {
    private static final Pattern STATEMENT =
        Pattern.compile("(?:(?:int|boolean) (\\w+) = )?(.+);\\s+// (-?\\d+|true|false)\\b.*");
    private static final Pattern ROW = Pattern.compile("(?m)^\\| `(\\w+)\\(([^)]*)\\)` \\| .+ \\|$");
    private static final Pattern TEST_NAME = Pattern.compile("`(\\w+Test)`");
    private static final String DECLARED = "SoupTickets town = new SoupTickets();";
    private static int wrong = 0;

    private static void check(boolean holds, String what) {
        if (!holds) {
            wrong++;
            System.out.println("README.md: not so: " + what);
        }
    }

    /** The example's answers come here. */
    public static void due(String call, Object got, Object want) {
        check(got.equals(want), call + " answers " + want + " (it answered " + got + ")");
    }

    public static void main(String[] args) throws Exception {
        String readme = Files.readString(Path.of("README.md"));
        runExample(exampleSource(readme));
        checkTable(readme);
        checkTests(readme);
        System.out.println(wrong == 0 ? "README.md says what is so" : wrong + " things are not as README.md says");
        if (wrong != 0) {
            System.exit(1);
        }
    }

    private static String exampleSource(String readme) {
        int from = readme.indexOf("```java\n");
        int to = readme.indexOf("\n```", from + 1);
        if (from < 0 || to < 0) {
            throw new IllegalStateException("README.md has no example");
        }
        StringBuilder source = new StringBuilder("public final class ReadmeExample {\n    public static void run() {\n");
        for (String line : readme.substring(from + "```java\n".length(), to).split("\n")) {
            source.append(line).append('\n');
            Matcher statement = STATEMENT.matcher(line);
            if (statement.matches()) {
                // a call is made but once, so its line becomes the check, or is followed by one of its name
                String name = statement.group(1);
                String asked = name == null ? statement.group(2) : name;
                if (name == null) {
                    source.setLength(source.length() - line.length() - 1);
                }
                source.append("ReadmeTest.due(\"").append(statement.group(2)).append("\", ").append(asked)
                    .append(", ").append(statement.group(3)).append(");\n");
            } else {
                check(line.equals(DECLARED), "each line of the example tells its answer: " + line);
            }
        }
        return source.append("    }\n}\n").toString();
    }

    private static void runExample(String source) throws Exception {
        Path place = Files.createTempDirectory("readme");
        Path file = place.resolve("ReadmeExample.java");
        try {
            Files.writeString(file, source);
            JavaCompiler compiler = ToolProvider.getSystemJavaCompiler();
            int answer = compiler.run(null, null, null, "-cp", System.getProperty("java.class.path"),
                "-d", place.toString(), file.toString());
            check(answer == 0, "the example compiles");
            if (answer == 0) {
                try (URLClassLoader loader = new URLClassLoader(new URL[] {place.toUri().toURL()})) {
                    loader.loadClass("ReadmeExample").getMethod("run").invoke(null);
                }
            }
        } finally {
            Files.deleteIfExists(file);
            Files.deleteIfExists(place.resolve("ReadmeExample.class"));
            Files.deleteIfExists(place);
        }
    }

    private static void checkTable(String readme) throws IOException {
        Set<String> due = new TreeSet<>();
        for (Method method : SoupTickets.class.getDeclaredMethods()) {
            if (Modifier.isPublic(method.getModifiers())) {
                due.add(method.getName() + " of " + method.getParameterCount());
            }
        }
        Set<String> seen = new TreeSet<>();
        Matcher row = ROW.matcher(readme);
        String program = Files.readString(Path.of("src/main/java/SoupTickets.java"));
        while (row.find()) {
            List<String> names = new ArrayList<>();
            for (String name : row.group(2).split(", ")) {
                if (!name.isEmpty()) {
                    names.add((name.equals("yes") ? "boolean " : "int ") + name);
                }
            }
            seen.add(row.group(1) + " of " + names.size());
            String written = " " + row.group(1) + "(" + String.join(", ", names) + ") {";
            check(program.contains(written), "the table's call" + written);
        }
        check(seen.equals(due), "the table has the calls " + due + ", seen " + seen);
    }

    private static void checkTests(String readme) {
        Set<String> named = new TreeSet<>();
        Matcher name = TEST_NAME.matcher(readme);
        while (name.find()) {
            named.add(name.group(1));
        }
        check(named.equals(classesIn("src/test/java")),
            "the tests are " + classesIn("src/test/java") + ", named " + named);
        for (String helper : classesIn("src/test/helpers")) {
            check(readme.contains("`" + helper + "`"), "the helper " + helper + " is named");
        }
    }

    private static Set<String> classesIn(String place) {
        Set<String> found = new TreeSet<>();
        String[] files = new File(place).list();
        for (String file : files == null ? new String[0] : files) {
            if (file.endsWith(".java")) {
                found.add(file.substring(0, file.length() - ".java".length()));
            }
        }
        return found;
    }
}
