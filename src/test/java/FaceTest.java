import java.lang.reflect.Constructor;
import java.lang.reflect.Field;
import java.lang.reflect.Method;
import java.lang.reflect.Modifier;
import java.util.Set;
import java.util.TreeSet;

/** The public face: every constant, constructor and method of the document, and no other. */
public final class FaceTest {
    private static final String[] DUE = {
        "int cell(int,int,int)", "int corner(int,int)", "int text(int,int)", "int clear()",
        "int issue(int,int,int,int,int)", "int update(int,int,int,int)", "int cancel(int)", "int minute()",
        "boolean line(int,boolean)", "int handset(int)", "int likes(int,int)", "int camp(int,int)",
        "int miss(int,int)", "boolean covers(int,int)", "int version(int)", "int listed(int,int,int)",
        "int sent(int,int,int)", "int shown(int,int,int)", "int shownByte(int,int,int)", "int total(int)"};

    public static void main(String[] args) {
        Set<String> due = new TreeSet<>(Set.of(DUE));
        Set<String> got = new TreeSet<>();
        for (Method m : AreaWarnings.class.getDeclaredMethods()) {
            if (!Modifier.isPrivate(m.getModifiers())) {
                Check.isTrue(m + " is public, of an object", m.getModifiers() == Modifier.PUBLIC);
                got.add(signature(m));
            } else {
                Check.isFalse(m + " bears a public name", due.stream().anyMatch(d -> d.contains(" " + m.getName() + "(")));
            }
        }
        Check.same("methods", due.toString(), got.toString());
        for (Field f : AreaWarnings.class.getDeclaredFields()) {
            Check.isTrue(f + " is private or NONE", Modifier.isPrivate(f.getModifiers()) || f.getName().equals("NONE"));
        }
        Check.equal("NONE", -1, AreaWarnings.NONE);
        Constructor<?>[] made = AreaWarnings.class.getDeclaredConstructors();
        Check.equal("constructors", 1, made.length);
        Check.equal("its parameters", 0, made[0].getParameterCount());
        Check.isTrue("final", Modifier.isFinal(AreaWarnings.class.getModifiers()));
        Check.isTrue("public", Modifier.isPublic(AreaWarnings.class.getModifiers()));
        Check.finish();
    }

    private static String signature(Method m) {
        StringBuilder all = new StringBuilder(m.getReturnType().getName()).append(' ').append(m.getName()).append('(');
        Class<?>[] types = m.getParameterTypes();
        for (int i = 0; i < types.length; i++) {
            all.append(i == 0 ? "" : ",").append(types[i].getName());
        }
        return all.append(')').toString();
    }
}
