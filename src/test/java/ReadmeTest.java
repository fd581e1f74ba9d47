import java.io.IOException;
import java.lang.reflect.Method;
import java.net.URL;
import java.net.URLClassLoader;
import java.nio.file.Files;
import java.nio.file.Path;
import java.util.List;
import java.util.Set;
import java.util.TreeSet;
import java.util.regex.Matcher;
import java.util.regex.Pattern;
import java.util.stream.Stream;
import javax.tools.JavaCompiler;
import javax.tools.ToolProvider;

/** What README.md shows is so: its Java is compiled as it stands there, and every answer behind a call is asked. */
public final class ReadmeTest {
    private static final Pattern ANSWERED = Pattern.compile("(?:int (\\w+) = )?(.*);\\s*// (-?\\d+|true|false): .*");

    private static int answers = 0;

    public static void main(String[] args) throws IOException, ReflectiveOperationException {
        String readme = Files.readString(Path.of("README.md"));
        StringBuilder members = new StringBuilder();
        StringBuilder statements = new StringBuilder();
        Matcher block = Pattern.compile("(?s)```java\n(.*?)```").matcher(readme);
        while (block.find()) {
            if (block.group(1).startsWith("static ")) {
                members.append(block.group(1));
            } else {
                block.group(1).lines().forEach(line -> statements.append(asked(line)).append('\n'));
            }
        }
        ask(members.toString(), statements.toString());
        everyCall(statements + members.toString());
        everyTest(readme);
        Told.finish();
    }

    /** A line that tells an answer, with the question whether it is so. */
    private static String asked(String line) {
        Matcher matcher = ANSWERED.matcher(line);
        if (!matcher.matches()) {
            Told.due("an answer behind: " + line, line.startsWith("x.") || line.contains("//"), false);
            return line;
        }
        answers++;
        String told = matcher.group(1) == null ? "" : "int " + matcher.group(1) + " = " + matcher.group(2) + ";\n";
        String value = matcher.group(1) == null ? matcher.group(2) : matcher.group(1);
        String call = matcher.group(2).replace("\\", "\\\\").replace("\"", "\\\"");
        return told + "ANSWERS.add(new Object[] {\"" + call + "\", number(" + value + "), number(" + matcher.group(3) + ")});";
    }

    private static void ask(String members, String statements) throws IOException, ReflectiveOperationException {
        String source = "public final class Shown {\n"
            + "public static final java.util.List<Object[]> ANSWERS = new java.util.ArrayList<>();\n"
            + "static long number(long value) { return value; }\n"
            + "static long number(boolean value) { return value ? 1 : 0; }\n"
            + members + "public static void all() {\n" + statements + "}\n}\n";
        Path folder = Files.createTempDirectory("readme");
        try {
            Path file = Files.writeString(folder.resolve("Shown.java"), source);
            JavaCompiler javac = ToolProvider.getSystemJavaCompiler();
            int code = javac.run(null, null, null, "-cp", System.getProperty("java.class.path"), "-d", folder.toString(),
                file.toString());
            Told.due("README.md's Java compiles", code, 0);
            if (code == 0) {
                compare(folder);
            }
        } finally {
            Files.deleteIfExists(folder.resolve("Shown.class"));
            Files.deleteIfExists(folder.resolve("Shown.java"));
            Files.deleteIfExists(folder);
        }
    }

    private static void compare(Path folder) throws IOException, ReflectiveOperationException {
        try (URLClassLoader loader = new URLClassLoader(new URL[] {folder.toUri().toURL()})) {
            Class<?> shown = loader.loadClass("Shown");
            shown.getMethod("all").invoke(null);
            List<?> found = (List<?>) shown.getField("ANSWERS").get(null);
            Told.due("answers that README.md shows", found.size(), answers);
            for (Object entry : found) {
                Object[] answer = (Object[]) entry;
                Told.due("README.md: " + answer[0], (Long) answer[1], (Long) answer[2]);
            }
        }
    }

    private static void everyCall(String code) {
        for (Method method : ChestnutLine.class.getMethods()) {
            if (method.getDeclaringClass() == ChestnutLine.class) {
                Told.due("README.md shows " + method.getName(), code.contains("x." + method.getName() + "("), true);
            }
        }
    }

    /** The table has each test that .ci/run finds, and no other one. */
    private static void everyTest(String readme) throws IOException {
        Set<String> shown = new TreeSet<>();
        Matcher row = Pattern.compile("(?m)^\\| (\\w+Test) \\|").matcher(readme);
        while (row.find()) {
            shown.add(row.group(1));
        }
        Set<String> there = new TreeSet<>();
        try (Stream<Path> files = Files.list(Path.of("src/test/java"))) {
            files.map(file -> file.getFileName().toString()).filter(name -> name.endsWith("Test.java"))
                .forEach(name -> there.add(name.replace(".java", "")));
        }
        Told.due("tests in README.md " + shown + ", there are " + there, shown.equals(there), true);
        Told.due("README.md says how to run them", readme.contains("    bash .ci/run\n"), true);
        Told.due(".ci/run is there", Files.isExecutable(Path.of(".ci/run")), true);
    }
}
