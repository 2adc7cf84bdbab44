import java.io.IOException;
import java.lang.reflect.Constructor;
import java.lang.reflect.Field;
import java.lang.reflect.Method;
import java.lang.reflect.Modifier;
import java.nio.file.Files;
import java.nio.file.Path;
import java.util.ArrayList;
import java.util.List;
import java.util.Set;
import java.util.TreeSet;

/** "The public face": every constant, constructor and method as the document has it, and no other. */
public final class FaceTest {
    private static final String SOURCE = "src/main/java/AreaWarnings.java";

    public static void main(String[] args) throws IOException {
        theClass();
        noneIsTheOnlyConstant();
        oneConstructor();
        methods(heads());
        parameterNames(heads(), Files.readString(Path.of(SOURCE)));
        Check.finish();
    }

    /** The heads of constructor and methods, from the document: "public int cell(int x, ..) throws ..". */
    private static List<String> heads() {
        List<String> found = new ArrayList<>();
        for (String line : Document.section("The public face")) {
            if (line.matches("    public .*\\).*;")) {
                found.add(line.strip().replace(";", ""));
            }
        }
        Check.equal("heads in the document", 21, found.size());
        return found;
    }

    private static void theClass() {
        Check.equal("public and final", Modifier.PUBLIC | Modifier.FINAL, AreaWarnings.class.getModifiers());
        Check.same("package", "", AreaWarnings.class.getPackageName());
        for (Class<?> inside : AreaWarnings.class.getDeclaredClasses()) {
            int m = inside.getModifiers();
            Check.isTrue(inside + " is static", Modifier.isStatic(m));
            Check.isFalse(inside + " is seen from outside", Modifier.isPublic(m) || Modifier.isProtected(m));
        }
    }

    private static void noneIsTheOnlyConstant() {
        for (Field f : AreaWarnings.class.getDeclaredFields()) {
            int due = Modifier.PUBLIC | Modifier.STATIC | Modifier.FINAL;
            Check.isTrue(f + " is private or NONE", f.getName().equals("NONE") ? f.getModifiers() == due
                : Modifier.isPrivate(f.getModifiers()));
        }
        Check.isTrue("the document has it", Document.section("The public face")
            .contains("    public static final int NONE = -1;"));
        Check.equal("NONE", -1, AreaWarnings.NONE);
    }

    private static void oneConstructor() {
        Constructor<?>[] made = AreaWarnings.class.getDeclaredConstructors();
        Check.equal("constructors", 1, made.length);
        Check.same("constructor", "public AreaWarnings()", made[0].toString());
    }

    private static void methods(List<String> heads) {
        Set<String> due = new TreeSet<>();
        for (String head : heads) {
            // Without the parameters' names, which a compiled class does not keep.
            due.add(head.replaceAll("(int|boolean) \\w+(?=[,)])", "$1").replace(", ", ","));
        }
        Set<String> got = new TreeSet<>();
        got.add("public AreaWarnings()");
        for (Method m : AreaWarnings.class.getDeclaredMethods()) {
            if (Modifier.isPrivate(m.getModifiers())) {
                Check.isFalse(m + " bears a public name", due.stream().anyMatch(d -> d.contains(" " + m.getName() + "(")));
            } else {
                got.add(m.toString().replace("AreaWarnings.", "").replace("java.lang.", ""));
            }
        }
        Check.same("methods", String.join("\n", due), String.join("\n", got));
    }

    private static void parameterNames(List<String> heads, String source) {
        String oneLine = source.replaceAll("\\s+", " ");
        for (String head : heads) {
            Check.isTrue("the source has, with the parameters' names: " + head, oneLine.contains(head + " {"));
        }
    }
}
