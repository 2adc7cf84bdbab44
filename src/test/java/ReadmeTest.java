import java.io.File;
import java.io.IOException;
import java.lang.reflect.InvocationTargetException;
import java.net.URL;
import java.net.URLClassLoader;
import java.nio.file.Files;
import java.nio.file.Path;
import java.util.ArrayList;
import java.util.List;
import java.util.TreeSet;
import java.util.regex.Matcher;
import java.util.regex.Pattern;
import java.util.stream.Stream;
import javax.tools.ToolProvider;

/** README.md: what it says is so. */
public final class ReadmeTest {
    private static final Path PLACE = Path.of("build/readme");
    private static final Pattern ANSWER =
        Pattern.compile("(?:int|boolean) (\\w+) = .*;\\s*// (-?\\d+|true|false)\\b.*");
    private static final Pattern HEAD =
        Pattern.compile("\\s*public (?:int|boolean) (\\w+)\\((.*)\\)(?: throws (.*))?;");

    public static void main(String[] args) throws IOException, ReflectiveOperationException {
        List<String> lines = Files.readAllLines(Path.of("README.md"));
        List<List<String>> examples = examples(lines);
        Check.equal("examples", 2, examples.size());
        for (int n = 0; n < examples.size(); n++) {
            run("Example" + n, examples.get(n));
        }
        calls(lines);
        tests(lines);
        paths(lines);
        Check.finish();
    }

    private static List<List<String>> examples(List<String> lines) {
        List<List<String>> found = new ArrayList<>();
        boolean inside = false;
        for (String line : lines) {
            if (line.startsWith("```")) {
                inside = line.equals("```java");
                if (inside) {
                    found.add(new ArrayList<>());
                }
            } else if (inside) {
                found.get(found.size() - 1).add(line);
            }
        }
        return found;
    }

    private static void run(String name, List<String> example) throws IOException, ReflectiveOperationException {
        Files.createDirectories(PLACE);
        Path source = PLACE.resolve(name + ".java");
        Files.writeString(source, program(name, example));
        String path = System.getProperty("java.class.path");
        int compiled = ToolProvider.getSystemJavaCompiler().run(null, null, null, "--release", "17", "-cp", path,
            "-sourcepath", "src/test/support", "-d", PLACE.toString(), source.toString());
        Check.equal(name + " compiles", 0, compiled);
        if (compiled == 0) {
            runMain(name);
        }
    }

    /** Each answer that a comment tells is checked behind its line; a story checks its own. */
    private static String program(String name, List<String> example) {
        StringBuilder all = new StringBuilder("public final class " + name + " {\n");
        all.append("public static void main(String[] args) {\n");
        int answers = 0;
        for (String line : example) {
            all.append(line).append('\n');
            Matcher answer = ANSWER.matcher(line);
            if (answer.matches()) {
                answers++;
                all.append("if (").append(answer.group(1)).append(" != ").append(answer.group(2))
                    .append(") { throw new IllegalStateException(\"README.md: ").append(answer.group(1))
                    .append(" is \" + ").append(answer.group(1)).append("); }\n");
            }
        }
        Check.equal(name + ": answers that are told", example.stream().filter(line -> line.matches("\\w+ \\w+ = w\\..*"))
            .count(), answers);
        if (answers == 0) {
            all.append("Check.finish();\n");
        }
        return all.append("}\n}\n").toString();
    }

    /** One loader for all classes: else the example would be in a package of its own, and not see Story. */
    private static void runMain(String name) throws IOException, ReflectiveOperationException {
        List<URL> places = new ArrayList<>(List.of(PLACE.toUri().toURL()));
        for (String place : System.getProperty("java.class.path").split(File.pathSeparator)) {
            places.add(Path.of(place).toUri().toURL());
        }
        try (URLClassLoader loader = new URLClassLoader(places.toArray(new URL[0]), null)) {
            loader.loadClass(name).getMethod("main", String[].class).invoke(null, (Object) new String[0]);
        } catch (InvocationTargetException e) {
            Check.same(name, "no exception", String.valueOf(e.getCause()));
        }
    }

    /** The table has each call of the document's face, with its parameters and what it throws. */
    private static void calls(List<String> lines) {
        TreeSet<String> due = new TreeSet<>();
        for (String line : Document.section("The public face")) {
            Matcher head = HEAD.matcher(line);
            if (head.matches()) {
                String thrown = head.group(3) == null ? "nothing" : head.group(3).replace("Exception", "");
                due.add(head.group(1) + "(" + head.group(2).replaceAll("(int|boolean) ", "") + ") throws " + thrown);
            }
        }
        TreeSet<String> got = new TreeSet<>();
        for (String line : lines) {
            if (line.startsWith("| `")) {
                String[] columns = line.split(" *\\| *");
                got.add(columns[1].replace("`", "") + " throws " + columns[4]);
            }
        }
        Check.same("calls", String.join("\n", due), String.join("\n", got));
    }

    private static void tests(List<String> lines) throws IOException {
        TreeSet<String> due = new TreeSet<>();
        try (Stream<Path> files = Files.list(Path.of("src/test/java"))) {
            files.forEach(file -> due.add(file.getFileName().toString().replace(".java", "")));
        }
        TreeSet<String> got = new TreeSet<>();
        for (String line : lines) {
            if (line.matches("\\| \\w+Test \\|.*")) {
                Check.isTrue("told once: " + line, got.add(line.split(" ")[1]));
            }
        }
        Check.same("tests", String.join(" ", due), String.join(" ", got));
    }

    /** Each file, and each class of the program or the tests' support, that is named in ` ` is there. */
    private static void paths(List<String> lines) {
        Pattern named = Pattern.compile("`((?:\\.\\./|src/|\\.ci/)[^` ]*|[A-Z][a-z]+)`");
        for (String line : lines) {
            Matcher found = named.matcher(line);
            while (found.find()) {
                String name = found.group(1);
                boolean isThere = name.contains("/") ? Files.exists(Path.of(name))
                    : Files.exists(Path.of("src/test/support", name + ".java")) || isInside(name);
                Check.isTrue("there is " + name, isThere);
            }
        }
    }

    private static boolean isInside(String name) {
        for (Class<?> inside : AreaWarnings.class.getDeclaredClasses()) {
            if (inside.getSimpleName().equals(name)) {
                return true;
            }
        }
        return false;
    }
}
