import java.io.IOException;
import java.net.URL;
import java.net.URLClassLoader;
import java.nio.file.Files;
import java.nio.file.Path;
import java.util.ArrayList;
import java.util.List;
import java.util.TreeSet;
import java.util.regex.Matcher;
import java.util.regex.Pattern;

/** The examples of README.md are put into one class and run: each call answers as the page says behind it. */
public final class ReadmeTest {
    private static final Checks checks = new Checks();
    private static final Pattern EXAMPLE = Pattern.compile("(?:int (\\w+) = )?((?:lake\\.\\w+|feedText)\\(.*\\)); +// (-?\\d+)\\b.*");
    private static final String CLASS = "ReadmeExamples";

    private static int examples;

    public static void main(String[] args) throws Exception {
        String page = Files.readString(Path.of("README.md"));
        runExamples(classOf(blocks(page)));
        namesAllCalls(page);
        namesAllTests(page);
        checks.end();
    }

    private static List<String> blocks(String page) {
        List<String> found = new ArrayList<>();
        Matcher fences = Pattern.compile("(?s)```java\n(.*?)```").matcher(page);
        while (fences.find()) {
            found.add(fences.group(1));
        }
        return found;
    }

    /** Methods stand beside the one that does all other lines; its rows are a line, what it answered, what is due. */
    private static String classOf(List<String> blocks) {
        StringBuilder methods = new StringBuilder();
        StringBuilder lines = new StringBuilder();
        for (String block : blocks) {
            if (block.startsWith("static ")) {
                methods.append(block);
            } else {
                block.lines().forEach(line -> lines.append(withRow(line)).append('\n'));
            }
        }
        return "public final class " + CLASS + " {\n" + methods + "public static java.util.List<Object[]> go() {\n"
            + "java.util.List<Object[]> rows = new java.util.ArrayList<>();\n" + lines + "return rows;\n}\n}\n";
    }

    private static String withRow(String line) {
        Matcher example = EXAMPLE.matcher(line);
        if (!example.matches()) {
            return line;
        }
        examples++;
        String name = example.group(1);
        String call = example.group(2);
        String row = "rows.add(new Object[] {\"" + call.replace("\"", "'") + "\", (long) ";
        String due = ", " + example.group(3) + "L});";
        return name == null ? row + call + due : "int " + name + " = " + call + "; " + row + name + due;
    }

    private static void runExamples(String source) throws Exception {
        checks.at("README.md, examples");
        Path folder = Files.createTempDirectory("readme");
        try {
            Path file = Files.writeString(folder.resolve(CLASS + ".java"), source);
            int compiled = new ProcessBuilder("javac", "-cp", System.getProperty("java.class.path"), "-d", folder.toString(),
                file.toString()).inheritIO().start().waitFor();
            checks.due("they compile", compiled, 0);
            if (compiled == 0) {
                compareRows(folder);
            }
        } finally {
            remove(folder);
        }
    }

    private static void compareRows(Path folder) throws Exception {
        try (URLClassLoader loader = new URLClassLoader(new URL[] {folder.toUri().toURL()})) {
            List<?> rows = (List<?>) loader.loadClass(CLASS).getMethod("go").invoke(null);
            checks.due("examples", rows.size(), examples);
            checks.due("there are some", examples > 40, true);
            for (Object one : rows) {
                Object[] row = (Object[]) one;
                checks.due((String) row[0], (Long) row[1], (Long) row[2]);
            }
        }
    }

    private static void remove(Path folder) throws IOException {
        try (var files = Files.list(folder)) {
            for (Path file : files.toList()) {
                Files.delete(file);
            }
        }
        Files.delete(folder);
    }

    /** How the class is used is said of every call. */
    private static void namesAllCalls(String page) {
        checks.at("README.md, calls");
        TreeSet<String> names = new TreeSet<>();
        for (var method : WalkingStones.class.getDeclaredMethods()) {
            if (java.lang.reflect.Modifier.isPublic(method.getModifiers())) {
                names.add(method.getName());
            }
        }
        for (String name : names) {
            checks.due(name + " is shown", page.contains("lake." + name + "("), true);
        }
    }

    private static void namesAllTests(String page) throws IOException {
        checks.at("README.md, tests");
        checks.due(".ci/run is told", page.contains("    .ci/run\n"), true);
        try (var files = Files.list(Path.of("src/test/java"))) {
            for (Path file : files.toList()) {
                String name = file.getFileName().toString().replace(".java", "");
                if (name.endsWith("Test")) {
                    checks.due(name + " is told", page.contains("`" + name + "`"), true);
                }
            }
        }
    }
}
