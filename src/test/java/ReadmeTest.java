import java.io.IOException;
import java.lang.reflect.Method;
import java.lang.reflect.Modifier;
import java.nio.file.Files;
import java.nio.file.Path;
import java.util.regex.Matcher;
import java.util.regex.Pattern;

/** README.md says what holds: its run answers what stands beside each call, and it names every call of the face. */
public final class ReadmeTest {
    private static final Pattern CALL = Pattern.compile("x\\.(\\w+)\\(([-0-9, ]*)\\);\\s+// (-?\\d+|true|false)\\b.*");
    private static final Pattern TAPE = Pattern.compile("tape\\(x, \"([^\"]*)\"\\);");
    private static final String MADE = "ParishYears x = new ParishYears();";

    private final Check check = new Check();
    private ParishYears x;
    private int calls;

    private ReadmeTest() {
    }

    public static void main(String[] args) throws Exception {
        new ReadmeTest().compare(Files.readString(Path.of("README.md")));
    }

    private void compare(String readme) throws Exception {
        String[] parts = readme.split("```");
        for (int i = 1; i < parts.length; i += 2) {
            if (parts[i].contains(MADE)) {
                follow(parts[i]);
            } else {
                check.due("the helper is that of the tests", isOfTheTests(parts[i]), true);
            }
        }
        check.due("calls of the run, some", calls > 20, true);
        for (Method m : ParishYears.class.getDeclaredMethods()) {
            if (Modifier.isPublic(m.getModifiers())) {
                check.due(m.getName() + "() is named", readme.contains("`" + m.getName() + "()`"), true);
            }
        }
        check.end();
    }

    private static boolean isOfTheTests(String block) throws IOException {
        String tests = Files.readString(Path.of("src", "test", "java", "support", "Check.java"));
        return plain(tests).contains(plain(block.substring("java".length())));
    }

    private static String plain(String text) {
        return text.replaceAll("\\s+", " ").trim();
    }

    private void follow(String block) throws Exception {
        for (String line : block.substring("java".length()).split("\n")) {
            Matcher call = CALL.matcher(line);
            Matcher tape = TAPE.matcher(line);
            if (call.matches()) {
                call(line, call.group(1), call.group(2), call.group(3));
            } else if (tape.matches()) {
                Check.tape(x, tape.group(1));
            } else if (line.equals(MADE)) {
                x = new ParishYears();
            } else {
                check.due("'" + line + "' can be followed", line.isEmpty() || line.startsWith("// "), true);
            }
        }
    }

    private void call(String line, String name, String arguments, String want) throws Exception {
        calls++;
        String[] texts = arguments.isEmpty() ? new String[0] : arguments.split(", ");
        Object[] numbers = new Object[texts.length];
        for (int i = 0; i < texts.length; i++) {
            numbers[i] = Integer.valueOf(texts[i]);
        }
        for (Method m : ParishYears.class.getDeclaredMethods()) {
            if (m.getName().equals(name) && m.getParameterCount() == numbers.length) {
                String got = String.valueOf(m.invoke(x, numbers));
                check.due("'" + line + "' (" + got + ") holds", got.equals(want), true);
                return;
            }
        }
        check.due("'" + line + "' is a call", false, true);
    }
}
