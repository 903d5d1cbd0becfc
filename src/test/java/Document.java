import java.io.IOException;
import java.nio.file.Files;
import java.nio.file.Path;
import java.util.LinkedHashMap;
import java.util.Map;

/** The document cut into its sections (0: Terms, else a promise), with what of it has been quoted by a test. */
final class Document {
    private final Map<Integer, String> sections = new LinkedHashMap<>();
    private final Map<Integer, boolean[]> quoted = new LinkedHashMap<>();

    Document(Path file) throws IOException {
        for (String section : Files.readString(file).split("(?m)^## ")) {
            if (section.startsWith("Terms")) {
                put(0, section.substring("Terms".length()));
            } else if (section.startsWith("Promise ")) {
                int number = Integer.parseInt(section.substring("Promise ".length(), section.indexOf(':')));
                // Behind the signature, which FaceTest looks at.
                put(number, section.substring(section.indexOf("`: ") + 3));
            }
        }
    }

    private void put(int number, String text) {
        String plain = text.replaceAll("(?m)^```.*$", " ").replaceAll("==== [IV]+\\.", " ").replaceAll("\\s+", " ").trim();
        sections.put(number, plain);
        quoted.put(number, new boolean[plain.length()]);
    }

    /** Marks a sentence of a section; false, if it isn't there. */
    boolean quote(int number, String sentence) {
        String text = sections.getOrDefault(number, "");
        int at = text.indexOf(sentence);
        boolean found = at >= 0;
        while (at >= 0) {
            java.util.Arrays.fill(quoted.get(number), at, at + sentence.length(), true);
            at = text.indexOf(sentence, at + 1);
        }
        return found;
    }

    /** What no test has quoted, section by section; empty, if there is nothing. */
    String unquoted() {
        StringBuilder all = new StringBuilder();
        for (int number : sections.keySet()) {
            StringBuilder rest = new StringBuilder();
            for (int i = 0; i < sections.get(number).length(); i++) {
                rest.append(quoted.get(number)[i] ? '\u0001' : sections.get(number).charAt(i));
            }
            String left = rest.toString().replaceAll("\u0001+", " | ").trim();
            if (left.matches("(?s).*[A-Za-z0-9].*")) {
                all.append(number == 0 ? "Terms" : "Promise " + number).append(": ").append(left).append('\n');
            }
        }
        return all.toString();
    }
}
