import java.io.IOException;
import java.nio.file.Files;
import java.nio.file.Path;
import java.util.ArrayList;
import java.util.List;

/** The sentences of ../shared/DOC.md, found from the project's root. */
final class Document {
    private static final Path PATH = Path.of("../shared/DOC.md");
    private static final String PROMISE = "Promise ";

    private final List<String> lines;

    Document() throws IOException {
        lines = Files.readAllLines(PATH);
    }

    /** The numbers of the promises, in their order. */
    List<Integer> promises() {
        List<Integer> numbers = new ArrayList<>();
        for (String line : lines) {
            if (line.startsWith("## " + PROMISE)) {
                String rest = line.substring(3 + PROMISE.length());
                numbers.add(Integer.parseInt(rest.substring(0, rest.indexOf(':'))));
            }
        }
        return numbers;
    }

    List<String> sentencesOfPromise(int promise) {
        return sentences(PROMISE + promise + ":");
    }

    List<String> sentencesOfTerms() {
        return sentences("Terms");
    }

    List<String> sentencesOfWhatItIs() {
        return sentences("What it is");
    }

    private List<String> sentences(String section) {
        List<String> found = new ArrayList<>();
        boolean inside = false;
        for (String line : lines) {
            if (line.startsWith("## ")) {
                inside = line.startsWith("## " + section);
            } else if (inside) {
                for (String sentence : withoutMark(line).split("(?<=\\.) (?=[A-Z])")) {
                    String plain = sentence.trim().replaceAll(" +", " ");
                    if (!plain.isEmpty()) {
                        found.add(plain);
                    }
                }
            }
        }
        return found;
    }

    /** The line without the signature or the dash before its words. */
    private static String withoutMark(String line) {
        int end = line.indexOf(")`: ");
        int thrown = line.indexOf("Exception`: ");
        int after = Math.max(end < 0 ? -1 : end + 4, thrown < 0 ? -1 : thrown + 12);
        if (after >= 0 && line.startsWith("`")) {
            return line.substring(after);
        }
        return line.startsWith("- ") ? line.substring(2) : line;
    }
}
