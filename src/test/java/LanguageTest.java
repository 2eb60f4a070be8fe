import java.io.IOException;
import java.nio.file.Files;
import java.nio.file.Path;
import java.util.regex.Matcher;
import java.util.regex.Pattern;

/** The class keeps to the part of Java that LANGUAGE.md leaves, as far as its text alone shows it. */
public final class LanguageTest {
    private static final Path SOURCE = Path.of("src", "main", "java", "ParishYears.java");
    /** Of rules 1 to 6 and 13. */
    private static final String[] NOT_TO_STAND = {"->", "::", "synchronized", "assert", "finally", "native", "volatile",
        "Object", "Thread", "Runtime", "Random", "nanoTime", "currentTimeMillis", "getenv", "Exact", "getMessage",
        "hashCode", "package", "protected", "static {"};

    private LanguageTest() {
    }

    public static void main(String[] args) throws IOException {
        Check check = new Check();
        String code = withoutComments(Files.readString(SOURCE));
        for (String word : NOT_TO_STAND) {
            boolean isWord = Character.isLetter(word.charAt(word.length() - 1));
            String pattern = isWord ? (word.equals("Exact") ? "" : "\\b") + word + "\\b" : Pattern.quote(word);
            check.due("rules 1 to 6, 13: '" + word + "'", count(code, pattern), 0);
        }
        check.due("rule 4: imports", count(code, "\\bimport\\b"), 1);
        check.due("rule 4: its import", count(code, "\\bimport java\\.util\\.NoSuchElementException;"), 1);
        check.due("rule 6: what is thrown", count(code, "\\bthrow\\b"),
            count(code, "\\bthrow new NoSuchElementException\\(\\);"));
        check.due("rule 3: no array of three dimensions", count(code, "\\[\\]\\[\\]\\[\\]"), 0);
        check.due("rule 5: static fields are final", count(code, "\\bstatic (?!final\\b)[^(){}]*[;=]"), 0);
        check.due("rule 11: classes", count(code, "\\bclass \\w+") <= 12, true);
        methods(check, code);
        check.end();
    }

    private static String withoutComments(String source) {
        return source.replaceAll("(?s)/\\*.*?\\*/", "").replaceAll("//[^\n]*", "").replaceAll("\"[^\"\n]*\"", "\"\"");
    }

    private static int count(String code, String pattern) {
        Matcher matcher = Pattern.compile(pattern).matcher(code);
        int found = 0;
        while (matcher.find()) {
            found++;
        }
        return found;
    }

    /** Rule 11: seven parameters, some sixty lines. */
    private static void methods(Check check, String code) {
        Matcher head = Pattern.compile("(?m)^( +)(?:\\w+(?:\\[\\])? )+(\\w+)\\(([^)]*)\\)[^;{]*\\{$").matcher(code);
        int found = 0;
        while (head.find()) {
            found++;
            int parameters = head.group(3).isEmpty() ? 0 : head.group(3).split(",").length;
            check.due("rule 11: parameters of " + head.group(2), parameters <= 7, true);
            int end = code.indexOf("\n" + head.group(1) + "}", head.end());
            int lines = code.substring(head.start(), end).split("\n").length;
            check.due("rule 11: lines of " + head.group(2) + ", " + lines, lines <= 60, true);
        }
        check.due("rule 11: methods are found", found > 45, true);
    }
}
