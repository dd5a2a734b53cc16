import java.io.IOException;
import java.io.UncheckedIOException;
import java.nio.charset.StandardCharsets;
import java.nio.file.Files;
import java.nio.file.Path;
import java.util.ArrayList;
import java.util.List;

/** The document's words, and which of them a test holds. */
final class Document {
    private static final String TERMS = "Terms";
    private static final String USE = "What it is";

    private final List<String> heads = new ArrayList<>();
    private final List<String> texts = new ArrayList<>();
    private final List<boolean[]> marks = new ArrayList<>();

    Document(String file) {
        StringBuilder text = new StringBuilder();
        String head = "";
        for (String line : linesOf(file)) {
            if (line.startsWith("## ")) {
                addSection(head, text.toString());
                head = line.substring(3);
                text.setLength(0);
            } else if (!line.startsWith("```") && !line.startsWith("Ahead of the calls ")) {
                text.append(line).append(' ');
            }
        }
        addSection(head, text.toString());
    }

    private static List<String> linesOf(String file) {
        try {
            return Files.readAllLines(Path.of(file), StandardCharsets.UTF_8);
        } catch (IOException e) {
            throw new UncheckedIOException(e);
        }
    }

    private void addSection(String head, String text) {
        String words = plain(text).replaceAll("==== [0-9] ", "");
        // ahead of a promise's words stands the call itself
        if (head.startsWith("Promise ")) {
            words = words.replaceFirst("^`[^`]*`: ", "");
        }
        heads.add(head);
        texts.add(words);
        marks.add(new boolean[words.length()]);
    }

    private static String plain(String text) {
        return text.replaceAll("\\s+", " ").trim();
    }

    /** Whether a promise, or else the terms, or what is said of an object's use, has these words. */
    boolean hold(int promise, String words) {
        return mark("Promise " + promise + ":", words) || mark(TERMS, words) || mark(USE, words);
    }

    private boolean mark(String head, String words) {
        boolean isThere = false;
        for (int s = 0; s < heads.size(); s++) {
            if (heads.get(s).startsWith(head)) {
                int at = texts.get(s).indexOf(plain(words));
                while (at >= 0) {
                    isThere = true;
                    for (int i = 0; i < plain(words).length(); i++) {
                        marks.get(s)[at + i] = true;
                    }
                    at = texts.get(s).indexOf(plain(words), at + 1);
                }
            }
        }
        return isThere;
    }

    int promises() {
        int n = 0;
        for (String head : heads) {
            n += head.startsWith("Promise ") ? 1 : 0;
        }
        return n;
    }

    /** The words of the terms and promises that no test holds. */
    List<String> left() {
        List<String> left = new ArrayList<>();
        for (int s = 0; s < heads.size(); s++) {
            if (heads.get(s).equals(TERMS) || heads.get(s).startsWith("Promise ")) {
                addLeft(left, s);
            }
        }
        return left;
    }

    private void addLeft(List<String> left, int s) {
        StringBuilder run = new StringBuilder();
        for (int i = 0; i <= texts.get(s).length(); i++) {
            boolean isEnd = i == texts.get(s).length();
            if (isEnd || marks.get(s)[i]) {
                if (run.chars().anyMatch(Character::isLetterOrDigit)) {
                    left.add(heads.get(s) + ": " + run.toString().trim());
                }
                run.setLength(0);
            } else {
                run.append(texts.get(s).charAt(i));
            }
        }
    }
}
