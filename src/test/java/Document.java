import java.io.IOException;
import java.nio.file.Files;
import java.nio.file.Path;
import java.util.ArrayList;
import java.util.List;

/** What the document says, for the tests that quote it. */
final class Document {

    private static final Path PLACE = Path.of("../shared/DOC.md");

    private final String text;

    Document() throws IOException {
        text = Files.isReadable(PLACE) ? Files.readString(PLACE) : "";
        if (!isThere()) {
            System.out.println(PLACE + " is not there: what the tests quote is not looked up");
        }
    }

    boolean isThere() {
        return !text.isEmpty();
    }

    boolean says(String sentence) {
        return text.replaceAll("\\s+", " ").contains(sentence);
    }

    /** Each "Throws .. if .." with its promise ahead of it. */
    List<String> refusals() {
        List<String> found = new ArrayList<>();
        String promise = "";
        for (String line : text.split("\n")) {
            if (line.startsWith("## ")) {
                promise = line.substring(3);
            }
            if (line.startsWith("Throws ")) {
                found.add(promise + ": " + line);
            }
        }
        return found;
    }
}
