import java.io.IOException;
import java.lang.reflect.Field;
import java.lang.reflect.Method;
import java.lang.reflect.Modifier;
import java.net.URL;
import java.net.URLClassLoader;
import java.nio.file.DirectoryStream;
import java.nio.file.Files;
import java.nio.file.Path;
import java.util.ArrayList;
import java.util.List;
import java.util.regex.Matcher;
import java.util.regex.Pattern;
import javax.tools.ToolProvider;

/** Runs the rows of README.md's Java blocks, and asks whether what it shows is so. */
public final class ReadmeTest {
    private static final Path README = Path.of("README.md");
    private static final Pattern ANSWERED = Pattern.compile("(\\w+ (\\w+) = )?(.+); *// -> (\"[^\"]*\"|[^:]+)(:.*)?");
    private static final Pattern THROWN = Pattern.compile("(.+); *// throws (\\w+)(:.*)?");
    private static final Pattern CALL = Pattern.compile("(\\w+ \\w+ = )?x\\.(\\w+)\\(.*");

    private static final Check CHECK = new Check();

    public static void main(String[] args) throws Exception {
        List<String> rows = Files.readAllLines(README);
        List<String> run = runOf(rows);
        answersAreShown(run);
        allCallsAreShown(run);
        runIsSo(run);
        constantsAreSo(rows);
        testsAreNamed(rows);
        CHECK.end();
    }

    // Rows outside the blocks stay as empty ones, so that a row's place is that in README.md.
    private static List<String> runOf(List<String> rows) {
        List<String> out = new ArrayList<>();
        boolean inside = false;
        for (String row : rows) {
            boolean fence = row.startsWith("```");
            out.add(inside && !fence ? row.strip() : "");
            inside = fence ? row.equals("```java") : inside;
        }
        return out;
    }

    private static boolean isShown(String row) {
        return ANSWERED.matcher(row).matches() || THROWN.matcher(row).matches();
    }

    private static void answersAreShown(List<String> run) {
        for (String row : run) {
            Matcher call = CALL.matcher(row);
            if (call.matches() && !isShown(row)) {
                CHECK.yes("README.md shows what is answered: " + row, answersNothing(call.group(2)));
            }
        }
    }

    private static boolean answersNothing(String name) {
        for (Method m : PaymentSwitch.class.getDeclaredMethods()) {
            if (m.getName().equals(name)) {
                return m.getReturnType() == void.class;
            }
        }
        return false;
    }

    private static void allCallsAreShown(List<String> run) {
        String all = String.join("\n", run);
        for (Method m : PaymentSwitch.class.getDeclaredMethods()) {
            if (Modifier.isPublic(m.getModifiers())) {
                CHECK.yes("README.md shows " + m.getName(), all.contains("x." + m.getName() + "("));
            }
        }
    }

    private static void runIsSo(List<String> run) throws Exception {
        Path place = Files.createTempDirectory("readme");
        Path source = place.resolve("ReadmeRun.java");
        try {
            Files.writeString(source, programOf(run));
            String path = System.getProperty("java.class.path");
            int code = ToolProvider.getSystemJavaCompiler()
                    .run(null, null, null, "-cp", path, "-d", place.toString(), source.toString());
            CHECK.same("README.md's rows are compiled", code, 0);
            if (code == 0) {
                wrongRows(place);
            }
        } finally {
            remove(place);
        }
    }

    private static void wrongRows(Path place) throws Exception {
        try (URLClassLoader loader = new URLClassLoader(new URL[] {place.toUri().toURL()})) {
            List<?> wrong = (List<?>) loader.loadClass("ReadmeRun").getMethod("run").invoke(null);
            for (Object row : wrong) {
                CHECK.tell("README.md, " + row);
            }
        }
    }

    private static void remove(Path place) throws IOException {
        try (DirectoryStream<Path> files = Files.newDirectoryStream(place)) {
            for (Path file : files) {
                Files.delete(file);
            }
        }
        Files.delete(place);
    }

    private static String programOf(List<String> run) {
        StringBuilder out = new StringBuilder();
        out.append("public final class ReadmeRun {\n")
                .append("static java.util.List<String> wrong = new java.util.ArrayList<>();\n")
                .append("static void same(int row, Object got, Object due) {\n")
                .append("if (!String.valueOf(got).equals(String.valueOf(due))) {\n")
                .append("wrong.add(\"row \" + row + \": \" + got + \", shown is \" + due); } }\n")
                .append("public static java.util.List<String> run() {\n");
        for (int i = 0; i < run.size(); i++) {
            out.append(statementOf(run.get(i), i + 1)).append('\n');
        }
        return out.append("return wrong; } }\n").toString();
    }

    private static String statementOf(String row, int place) {
        Matcher answered = ANSWERED.matcher(row);
        if (answered.matches()) {
            String due = valueOf(answered.group(4).strip());
            String tail = ", " + due + ");";
            return answered.group(1) == null
                    ? "same(" + place + ", " + answered.group(3) + tail
                    : answered.group(1) + answered.group(3) + "; same(" + place + ", " + answered.group(2) + tail;
        }
        Matcher thrown = THROWN.matcher(row);
        if (thrown.matches()) {
            String due = ", \"" + thrown.group(2) + "\");";
            return "try { " + thrown.group(1) + "; same(" + place + ", \"nothing\"" + due
                    + " } catch (RuntimeException e) { same(" + place + ", e.getClass().getSimpleName()" + due + " }";
        }
        return row;
    }

    private static String valueOf(String shown) {
        return shown.matches("[A-Z]+") ? "PaymentSwitch." + shown : shown;
    }

    private static void constantsAreSo(List<String> rows) throws IllegalAccessException {
        for (Field f : PaymentSwitch.class.getDeclaredFields()) {
            if (Modifier.isPublic(f.getModifiers())) {
                String front = "| `" + f.getName() + "` | " + f.getInt(null) + " |";
                CHECK.yes("README.md has a row " + front, rows.stream().anyMatch(row -> row.startsWith(front)));
            }
        }
    }

    private static void testsAreNamed(List<String> rows) throws IOException {
        try (DirectoryStream<Path> tests = Files.newDirectoryStream(Path.of("src/test/java"), "*Test.java")) {
            for (Path test : tests) {
                String name = "`" + test.getFileName().toString().replace(".java", "") + "`";
                CHECK.yes("README.md names " + name,
                        rows.stream().anyMatch(row -> row.startsWith("| `") && row.contains(name)));
            }
        }
    }
}
