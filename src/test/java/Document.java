import java.io.IOException;
import java.io.UncheckedIOException;
import java.nio.file.Files;
import java.nio.file.Path;
import java.util.ArrayList;
import java.util.List;
import java.util.Map;
import java.util.TreeMap;
import java.util.regex.Matcher;
import java.util.regex.Pattern;

/** The document by its parts: "What it is", "The public face", "Term 1" to "Term 5", "Promise 1" to "Promise 32". */
final class Document {
    static final int TERMS = 5;
    static final int PROMISES = 32;
    private static final Path PLACE = Path.of("..", "shared", "DOC.md");
    private final Map<String, String> parts = new TreeMap<>();

    Document() {
        String part = "";
        boolean inTerms = false;
        for (String line : text().split("\n")) {
            if (line.startsWith("## ")) {
                inTerms = line.equals("## Terms");
                part = line.substring(3).replaceAll(":.*", "");
            } else if (inTerms && line.matches("[0-9]\\. .*")) {
                part = "Term " + line.charAt(0);
                add(part, line.substring(3));
            } else if (!line.startsWith("```")) {
                add(part, line);
            }
        }
    }

    private static String text() {
        try {
            return Files.readString(PLACE);
        } catch (IOException e) {
            throw new UncheckedIOException("the document is looked for at " + PLACE, e);
        }
    }

    private void add(String part, String line) {
        parts.merge(part, line.strip(), (old, more) -> (old + " " + more).strip());
    }

    /** A part's text in one line; empty if there is no such part. */
    String part(String name) {
        return parts.getOrDefault(name, "");
    }

    /** The calls of the public face, in its order, each as "int feed(int a, int b)"; the constructor is none of them. */
    List<String> calls() {
        List<String> all = new ArrayList<>();
        Matcher call = Pattern.compile("public ([a-z]+ [a-z]+\\([^)]*\\));").matcher(part("The public face"));
        while (call.find()) {
            all.add(call.group(1));
        }
        return all;
    }

    /** The call that a promise begins with, as it stands there: between signs, a colon behind them. */
    String callOf(int promise) {
        String text = part("Promise " + promise);
        int behind = text.indexOf("`: ", 1);
        return text.startsWith("`") && behind > 0 ? text.substring(0, behind + 2) : "";
    }

    /** Marks, in a row as long as the part is, where these words stand, one piece behind the other; false if they don't. */
    boolean mark(String name, String[] words, boolean[] marks) {
        String text = part(name);
        int at = 0;
        for (String piece : words) {
            int from = text.indexOf(piece, at);
            if (from < 0 || piece.isEmpty()) {
                return false;
            }
            at = from + piece.length();
            for (int i = from; i < at; i++) {
                marks[i] = true;
            }
        }
        return words.length > 0;
    }
}
