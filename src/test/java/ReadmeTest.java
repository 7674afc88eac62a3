import java.lang.reflect.Method;
import java.lang.reflect.Modifier;
import java.net.URL;
import java.net.URLClassLoader;
import java.nio.file.Files;
import java.nio.file.Path;
import java.util.ArrayList;
import java.util.List;
import java.util.TreeSet;
import java.util.regex.Matcher;
import java.util.regex.Pattern;
import javax.tools.ToolProvider;

/** What README.md says of the class: its examples answer as is written behind them, its table has each call. Run where it is. */
public final class ReadmeTest {
    private static final Path README = Path.of("README.md");
    private static final Pattern EXAMPLE = Pattern.compile("((?:x\\.|tell\\().*\\)); +// (-?\\d+|true|false)(?:: .*)?");
    private static final Pattern ROW = Pattern.compile("\\|[^|]*\\|(.*)\\|");
    private static final Pattern CALL = Pattern.compile("`(\\w+)`");

    private ReadmeTest() {
    }

    public static void main(String[] args) throws Exception {
        List<String> lines = Files.readAllLines(README);
        Due due = new Due();
        tableHasEachCall(due, lines);
        List<Object[]> answers = answersOf(lines);
        due.same("there are examples", !answers.isEmpty(), true);
        for (Object[] answer : answers) {
            due.same(answer[0] + " answers " + answer[1] + ", README says " + answer[2], answer[1].equals(answer[2]), true);
        }
        due.close();
    }

    private static void tableHasEachCall(Due due, List<String> lines) {
        List<String> named = new ArrayList<>();
        for (String line : lines) {
            Matcher row = ROW.matcher(line);
            Matcher call = CALL.matcher(row.matches() ? row.group(1) : "");
            while (call.find()) {
                named.add(call.group(1));
            }
        }
        TreeSet<String> face = new TreeSet<>();
        for (Method method : LiquoriceRoads.class.getDeclaredMethods()) {
            if (Modifier.isPublic(method.getModifiers())) {
                face.add(method.getName());
            }
        }
        due.same("each call is named: " + face + named, new TreeSet<>(named).equals(face), true);
        due.same("each once", named.size(), face.size());
    }

    /** The examples as one class, compiled and run: for each the call, its answer and the one that is written down. */
    private static List<Object[]> answersOf(List<String> lines) throws Exception {
        Path made = Files.createTempDirectory("readme");
        Path source = made.resolve("Examples.java");
        Files.writeString(source, sourceOf(lines));
        String path = System.getProperty("java.class.path");
        int failed = ToolProvider.getSystemJavaCompiler().run(null, null, null, "-cp", path, "-d", made.toString(), source.toString());
        if (failed != 0) {
            System.out.println("the examples don't compile");
            System.exit(1);
        }
        List<Object[]> answers = new ArrayList<>();
        try (URLClassLoader loader = new URLClassLoader(new URL[] {made.toUri().toURL()})) {
            loader.loadClass("Examples").getMethod("run", List.class).invoke(null, answers);
        }
        Files.delete(made.resolve("Examples.class"));
        Files.delete(source);
        Files.delete(made);
        return answers;
    }

    private static String sourceOf(List<String> lines) {
        StringBuilder members = new StringBuilder();
        StringBuilder body = new StringBuilder();
        StringBuilder block = body;
        boolean inside = false;
        for (String line : lines) {
            if (line.startsWith("```")) {
                inside = line.equals("```java");
                block = body;
                continue;
            }
            block = line.startsWith("static ") ? members : block;
            if (inside) {
                block.append(lineOf(line)).append('\n');
            }
        }
        return "public final class Examples {\n" + members
            + "public static void run(java.util.List<Object[]> answers) {\n" + body + "}\n}\n";
    }

    private static String lineOf(String line) {
        Matcher example = EXAMPLE.matcher(line);
        if (!example.matches()) {
            return line;
        }
        String call = example.group(1);
        String quoted = call.replace("\"", "\\\"");
        return "answers.add(new Object[] {\"" + quoted + "\", String.valueOf(" + call + "), \"" + example.group(2) + "\"});";
    }
}
