import java.lang.reflect.Constructor;
import java.lang.reflect.Field;
import java.lang.reflect.Method;
import java.lang.reflect.Modifier;
import java.util.ArrayList;
import java.util.Arrays;
import java.util.List;
import java.util.TreeSet;

/** The class has the document's face and nothing else that can be seen from outside (LANGUAGE.md, rules 1 and 5). */
public final class FaceTest {
    private static final String[] FACE = {
        "int feed(int,int,int,int,int)", "boolean end(int)", "int valley()", "int fault()", "int parish(int,int)",
        "int at(int,int,int)", "int countOf(int,int,int,int)", "int feast(int,int)", "int now(int)", "int hold(int)",
        "int skip(int,int)", "int days(int)", "int undo()", "int next(int)", "int falls(int,int)", "int meet(int,int)",
        "int fair(int)", "int drift(int,int)", "int tune(int,int)", "int tuned()", "int agree(int,int)",
        "int agreeing()", "int match(int,int,int)", "int matchOn()", "int reform()", "int reformTo()",
        "int play(int,int,int)", "int crowd(int)", "int crowdOn()", "int wrote()", "int ago(int)",
        "int age(int,int,int,int)", "int ask()", "int born(int,int)", "int title(int)", "int byteAt(int)",
        "int drawn(int,int)", "int odds(int,int,int)", "int book(int)", "int told(int)", "int sentence()",
        "int said(int)", "boolean image(int)", "boolean restore(int)", "int count(int)"
    };

    public static void main(String[] args) {
        Check check = new Check();
        Class<?> c = ParishYears.class;
        check.due("public final", Modifier.isPublic(c.getModifiers()) && Modifier.isFinal(c.getModifiers()), true);
        check.due("no package", c.getPackageName().isEmpty(), true);
        TreeSet<String> want = new TreeSet<>(Arrays.asList(FACE));
        TreeSet<String> got = new TreeSet<>();
        List<String> names = new ArrayList<>();
        for (Method m : c.getDeclaredMethods()) {
            if (!Modifier.isPrivate(m.getModifiers())) {
                check.due(m + " is public", Modifier.isPublic(m.getModifiers()), true);
                check.due(m + " is no static one", Modifier.isStatic(m.getModifiers()), false);
                got.add(told(m));
                names.add(m.getName());
            }
        }
        check.due("the face is " + got + " for " + want, got.equals(want), true);
        for (Method m : c.getDeclaredMethods()) {
            check.due(m + " bears a public name", Modifier.isPrivate(m.getModifiers()) && names.contains(m.getName()),
                false);
        }
        for (Field f : c.getDeclaredFields()) {
            boolean none = f.getName().equals("NONE");
            check.due(f + " is hidden", none ? Modifier.isPublic(f.getModifiers())
                : Modifier.isPrivate(f.getModifiers()), true);
            check.due(f + " may be static", !Modifier.isStatic(f.getModifiers()) || Modifier.isFinal(f.getModifiers()),
                true);
        }
        check.due("one constructor", c.getDeclaredConstructors().length, 1);
        for (Constructor<?> k : c.getDeclaredConstructors()) {
            check.due("public, without arguments", Modifier.isPublic(k.getModifiers()) && k.getParameterCount() == 0,
                true);
        }
        for (Class<?> inner : c.getDeclaredClasses()) {
            int m = inner.getModifiers();
            check.due(inner + " is static and not public", Modifier.isStatic(m) && !Modifier.isPublic(m), true);
        }
        check.end();
    }

    private static String told(Method m) {
        StringBuilder text = new StringBuilder(m.getReturnType().getName()).append(' ').append(m.getName()).append('(');
        for (int i = 0; i < m.getParameterCount(); i++) {
            text.append(i == 0 ? "" : ",").append(m.getParameterTypes()[i].getName());
        }
        return text.append(')').toString();
    }
}
