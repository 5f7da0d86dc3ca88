import java.io.IOException;
import java.nio.file.Files;
import java.nio.file.Path;
import java.util.ArrayList;
import java.util.Arrays;
import java.util.List;

/** The document's sentences: those that are quoted must stand there, and none may be left out. */
final class EdgeDoc {
    /** The part 0 is all that stands ahead of promise 1; part n is promise n. */
    private final String[] parts;
    private final boolean[][] quoted;

    EdgeDoc(Path file) throws IOException {
        String text = Files.readString(file);
        text = text.substring(text.indexOf("An object is used for"), text.indexOf("## Not promised"));
        String[] raw = text.split("(?m)^## Promise \\d+: .*$");
        // An int is whole; the list of the calls and their headings promise nothing that the rest does not.
        raw[0] = raw[0].replace("All numbers are whole.", " ").replaceAll("(?s)## The public face.*?## Terms", " ").replaceAll("(?m)^Ahead of the calls.*$", " ");
        parts = new String[raw.length];
        quoted = new boolean[raw.length][];
        for (int i = 0; i < raw.length; i++) {
            String bare = i == 0 ? raw[i].replaceAll("```(text)?|======== \\d", " ") : raw[i].substring(raw[i].indexOf("`:") + 2);
            parts[i] = bare.replaceAll("\\s+", " ").trim();
            quoted[i] = new boolean[parts[i].length()];
        }
    }

    int promises() {
        return parts.length - 1;
    }

    /** Marks a sentence, or a part of one, of a promise or of what stands ahead of them. */
    boolean quote(int promise, String sentence) {
        return promise >= 1 && promise < parts.length && mark(promise, sentence) || mark(0, sentence);
    }

    private boolean mark(int part, String sentence) {
        int at = parts[part].indexOf(sentence);
        if (at < 0) return false;
        Arrays.fill(quoted[part], at, at + sentence.length(), true);
        return true;
    }

    /** What no test has quoted, but for the marks and small words between quotes. */
    List<String> leftOut() {
        List<String> left = new ArrayList<>();
        for (int part = 0; part < parts.length; part++) {
            StringBuilder rest = new StringBuilder();
            for (int i = 0; i < parts[part].length(); i++) rest.append(quoted[part][i] ? '\n' : parts[part].charAt(i));
            for (String piece : rest.toString().split("\n+")) {
                String bare = piece.replaceAll("\\b(and|or)\\b", "").trim();
                if (bare.matches("(?s).*\\w.*")) left.add((part == 0 ? "terms" : "promise " + part) + ": " + piece.trim());
            }
        }
        return left;
    }
}
