import java.io.IOException;
import java.nio.file.Files;
import java.nio.file.Path;
import java.util.ArrayList;
import java.util.List;

/** The document's words: its sections, and the pieces of them that say something by themselves. */
final class Document {
    static final int PROMISES = 25;
    static final int DESCRIPTION = 0;

    private final String words;

    Document(Path file) throws IOException {
        words = Files.readString(file).replace("`", "");
    }

    private static String plain(String text) {
        return text.replaceAll("\\s+", " ").trim();
    }

    /** The lines of a section: of a promise, or of the description. */
    private String section(int number) {
        return section(number == DESCRIPTION ? "## Description\n" : "## Promise " + number + ": ");
    }

    private String section(String head) {
        int from = words.indexOf(head);
        if (from < 0) {
            throw new IllegalStateException("no section " + head);
        }
        int begin = words.indexOf('\n', from) + 1;
        int end = words.indexOf("\n## ", begin);
        return words.substring(begin, end < 0 ? words.length() : end);
    }

    /** The members of the class as the document declares them, each without the stop at its end. */
    List<String> face() {
        List<String> members = new ArrayList<>();
        for (String line : section("## The public face\n").split("\n")) {
            if (line.startsWith("    public ")) {
                members.add(plain(line.replace(";", "")));
            }
        }
        return members;
    }

    /** The calls of each example, without the number and the words before them. */
    List<String> examples() {
        List<String> examples = new ArrayList<>();
        for (String line : section(DESCRIPTION).split("\n")) {
            if (line.matches("\\d\\. .*")) {
                examples.add(withoutStop(line.substring(line.indexOf(": ") + 2)));
            }
        }
        return examples;
    }

    boolean says(int number, String quote) {
        return plain(section(number)).contains(quote);
    }

    /** The pieces of a section, each of which needs a test of its own. */
    List<String> pieces(int number) {
        return number == DESCRIPTION ? sentencesOfDescription() : piecesOfPromise(number);
    }

    private List<String> piecesOfPromise(int number) {
        List<String> pieces = new ArrayList<>();
        boolean behindSignature = number == 1;
        for (String line : section(number).split("\n")) {
            if (line.isBlank() || line.startsWith("----")) {
                continue;
            }
            boolean signature = line.startsWith("int ") || line.startsWith("BoundaryAnalyzer(");
            if (signature) {
                behindSignature = true;
            } else if (!behindSignature) {
                throw new IllegalStateException("no signature in promise " + number);
            } else if (line.startsWith("- ")) {
                pieces.add(withoutStop(line.substring(2)));
            } else {
                for (String sentence : sentences(line)) {
                    addClauses(pieces, withoutStop(sentence));
                }
            }
        }
        return pieces;
    }

    private static String withoutStop(String text) {
        String plain = plain(text);
        return plain.endsWith(".") ? plain.substring(0, plain.length() - 1) : plain;
    }

    private static String[] sentences(String text) {
        return text.split("(?<=\\.\\)?)\\s+(?=[A-Z(])");
    }

    /** Splits at each ";" that is not within parentheses. */
    private static void addClauses(List<String> pieces, String sentence) {
        int depth = 0;
        int begin = 0;
        for (int i = 0; i < sentence.length(); i++) {
            char sign = sentence.charAt(i);
            depth += sign == '(' ? 1 : sign == ')' ? -1 : 0;
            if (sign == ';' && depth == 0) {
                pieces.add(plain(sentence.substring(begin, i)));
                begin = i + 1;
            }
        }
        pieces.add(plain(sentence.substring(begin)));
    }

    /** Up to the examples, and without the words that only head a paragraph. */
    private List<String> sentencesOfDescription() {
        String all = section(DESCRIPTION);
        int end = all.indexOf("\nExamples:");
        List<String> pieces = new ArrayList<>();
        for (String line : all.substring(0, end < 0 ? all.length() : end).split("\n")) {
            for (String sentence : sentences(line)) {
                String piece = withoutStop(sentence);
                if (piece.split(" ").length > 3) {
                    pieces.add(piece);
                }
            }
        }
        return pieces;
    }
}
