import java.io.IOException;
import java.lang.reflect.Constructor;
import java.lang.reflect.Field;
import java.lang.reflect.Method;
import java.lang.reflect.Modifier;
import java.nio.file.Files;
import java.nio.file.Path;
import java.util.TreeSet;

/** The class has the document's face and nothing else that can be seen from outside (LANGUAGE.md, rules 1 and 5). */
public final class FaceTest {
    private static final Path DOCUMENT = Path.of("..", "shared", "DOC.md");
    private static final int CALLS = 45;

    private final Check check = new Check();
    private final TreeSet<String> names = new TreeSet<>();

    private FaceTest() {
    }

    public static void main(String[] args) throws IOException {
        new FaceTest().compareAll();
    }

    private void compareAll() throws IOException {
        Class<?> c = ParishYears.class;
        check.due("public final", Modifier.isPublic(c.getModifiers()) && Modifier.isFinal(c.getModifiers()), true);
        check.due("no package", c.getPackageName().isEmpty(), true);
        check.due("nothing above it", c.getSuperclass() == Object.class && c.getInterfaces().length == 0, true);
        check.due("NONE", ParishYears.NONE, -1);
        face(c);
        fields(c);
        check.due("one constructor", c.getDeclaredConstructors().length, 1);
        for (Constructor<?> k : c.getDeclaredConstructors()) {
            check.due("public, without arguments, throwing nothing", Modifier.isPublic(k.getModifiers())
                && k.getParameterCount() == 0 && k.getExceptionTypes().length == 0, true);
        }
        for (Class<?> inner : c.getDeclaredClasses()) {
            int m = inner.getModifiers();
            check.due(inner + " is static and not public", Modifier.isStatic(m) && !Modifier.isPublic(m), true);
            hiddenMethods(inner);
        }
        hiddenMethods(c);
        check.end();
    }

    /** What is told by the class is what is written in the document, with what a call may throw. */
    private void face(Class<?> c) throws IOException {
        TreeSet<String> got = new TreeSet<>();
        for (Method m : c.getDeclaredMethods()) {
            if (!Modifier.isPrivate(m.getModifiers())) {
                check.due(m + " is public", Modifier.isPublic(m.getModifiers()), true);
                check.due(m + " is no static one", Modifier.isStatic(m.getModifiers()), false);
                got.add(told(m));
                names.add(m.getName());
            }
        }
        TreeSet<String> want = inTheDocument();
        check.due("calls in the document", want.size(), CALLS);
        check.due("the face is " + got + " for " + want, got.equals(want), true);
    }

    private static TreeSet<String> inTheDocument() throws IOException {
        TreeSet<String> face = new TreeSet<>();
        String all = Files.readString(DOCUMENT);
        int from = all.indexOf("public final class ParishYears {");
        for (String line : all.substring(from, all.indexOf("```", from)).split("\n")) {
            String call = line.trim();
            if (call.matches("public \\w+ \\w+\\(.*\\).*;")) {
                face.add(call.replaceAll("^public |;$", "").replaceAll("int \\w+(?=[,)])", "int"));
            }
        }
        return face;
    }

    private static String told(Method m) {
        StringBuilder text = new StringBuilder(m.getReturnType().getName()).append(' ').append(m.getName()).append('(');
        for (int i = 0; i < m.getParameterCount(); i++) {
            text.append(i == 0 ? "" : ", ").append(m.getParameterTypes()[i].getName());
        }
        text.append(')');
        for (Class<?> thrown : m.getExceptionTypes()) {
            text.append(" throws ").append(thrown.getSimpleName());
        }
        return text.toString();
    }

    private void fields(Class<?> c) {
        for (Field f : c.getDeclaredFields()) {
            boolean none = f.getName().equals("NONE");
            check.due(f + " is hidden", none ? Modifier.isPublic(f.getModifiers())
                : Modifier.isPrivate(f.getModifiers()), true);
            check.due(f + " may be static", !Modifier.isStatic(f.getModifiers()) || Modifier.isFinal(f.getModifiers()),
                true);
        }
    }

    /** In the classes inside, too: there a public name would be as misleading. */
    private void hiddenMethods(Class<?> c) {
        for (Method m : c.getDeclaredMethods()) {
            check.due(m + " bears a public name", Modifier.isPrivate(m.getModifiers()) && names.contains(m.getName()),
                false);
        }
    }
}
