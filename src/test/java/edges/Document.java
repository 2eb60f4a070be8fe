import java.io.IOException;
import java.nio.file.Files;
import java.nio.file.Path;
import java.util.BitSet;
import java.util.Map;
import java.util.TreeMap;

/** The document's text by promises (0: Terms and the parts behind it), and which of it the tests have quoted. */
final class Document {
    private static final Path PLACE = Path.of("..", "shared", "DOC.md");
    private static final String HEAD = "## Promise ";

    private final Map<Integer, String> text = new TreeMap<>();
    private final Map<Integer, BitSet> quoted = new TreeMap<>();

    private Document() {
    }

    /** The document, or null where it does not stand beside the project. */
    static Document read() {
        if (!Files.isReadable(PLACE)) {
            return null;
        }
        try {
            Document document = new Document();
            document.divide(Files.readString(PLACE));
            return document;
        } catch (IOException e) {
            throw new IllegalStateException(e);
        }
    }

    private void divide(String all) {
        int section = -1;
        StringBuilder[] parts = new StringBuilder[47];
        for (String line : all.split("\n")) {
            if (line.startsWith("## ")) {
                section = line.equals("## Terms") ? 0 : line.startsWith(HEAD) ? number(line) : -1;
            } else if (section >= 0 && !line.startsWith("```")) {
                if (parts[section] == null) {
                    parts[section] = new StringBuilder();
                }
                parts[section].append(' ').append(line);
            }
        }
        for (int i = 0; i < parts.length; i++) {
            if (parts[i] == null) {
                throw new IllegalStateException("the document has no section " + i);
            }
            text.put(i, withoutFace(plain(parts[i].toString())));
            quoted.put(i, new BitSet());
        }
    }

    private static int number(String line) {
        return Integer.parseInt(line.substring(HEAD.length(), line.indexOf(':')));
    }

    private static String plain(String some) {
        return some.replaceAll("==== \\d\\.", " ").replaceAll("\\s+", " ").trim();
    }

    /** A promise begins with its call, which FaceTest looks after. */
    private static String withoutFace(String some) {
        return some.startsWith("`") ? some.substring(some.indexOf("`:") + 2).trim() : some;
    }

    /** Marks a sentence as quoted, in its promise or in the Terms; false, if it stands in neither. */
    boolean quote(int promise, String sentence) {
        for (int section : new int[] {promise, 0}) {
            int at = text.get(section).indexOf(plain(sentence));
            if (at >= 0) {
                quoted.get(section).set(at, at + plain(sentence).length());
                return true;
            }
        }
        return false;
    }

    /** What no test has quoted; empty, if all is. */
    String unquoted() {
        StringBuilder left = new StringBuilder();
        for (Map.Entry<Integer, String> section : text.entrySet()) {
            StringBuilder open = new StringBuilder();
            for (int i = 0; i < section.getValue().length(); i++) {
                boolean done = quoted.get(section.getKey()).get(i);
                open.append(done ? '|' : section.getValue().charAt(i));
            }
            for (String piece : open.toString().split("\\|+")) {
                if (piece.matches(".*[A-Za-z0-9].*")) {
                    left.append("\n  ").append(section.getKey()).append(": ").append(piece.trim());
                }
            }
        }
        return left.toString();
    }
}
