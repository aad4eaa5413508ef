import java.io.IOException;
import java.nio.file.Files;
import java.nio.file.Path;
import java.util.ArrayList;
import java.util.List;

/**
 * Every sentence of the document's promises and terms by itself, with its boundaries; and whether each sentence
 * that is there has such a test.
 */
public final class EdgeTest {
    private static final Path DOCUMENT = Path.of("../shared/DOC.md");

    public static void main(String[] args) throws IOException {
        EdgesOfTexts.run();
        EdgesOfTime.run();
        EdgesOfTape.run();
        EdgesOfTelling.run();
        EdgesOfWays.run();
        EdgesOfHabits.run();
        for (Edge edge : Edge.all()) {
            Check.holds(edge + " is tested", edge.wasTested());
        }
        if (Files.exists(DOCUMENT)) {
            quotes(Files.readString(DOCUMENT));
        }
        Check.finish("EdgeTest");
    }

    /** Each sentence tested stands in its part of the document, and no part has others. */
    private static void quotes(String document) {
        for (int promise = Edge.USE; promise <= 22; promise++) {
            String part = part(document, promise);
            StringBuilder left = new StringBuilder(part);
            for (Edge edge : Edge.all()) {
                if (edge.promise == promise) {
                    int at = part.indexOf(edge.sentence);
                    Check.holds(edge + " is in the document", at >= 0);
                    for (int i = 0; at >= 0 && i < edge.sentence.length(); i++) {
                        left.setCharAt(at + i, ' ');
                    }
                }
            }
            if (promise != Edge.USE) {
                Check.holds("part " + promise + " of the document without a test: " + left.toString().trim(),
                        left.toString().isBlank());
            }
        }
    }

    /** The text of a part in one line, without its heading, signature and fences. */
    private static String part(String document, int promise) {
        String heading = promise == Edge.USE ? "What it is" : promise == Edge.TERMS ? "Terms" : "Promise " + promise + ": ";
        List<String> lines = new ArrayList<>();
        boolean inPart = false;
        for (String line : document.split("\n")) {
            if (line.startsWith("## ")) {
                inPart = line.startsWith("## " + heading);
            } else if (inPart && !line.startsWith("```")) {
                lines.add(line.trim());
            }
        }
        String text = String.join(" ", lines).replaceAll("\\s+", " ").trim();
        return promise > 0 ? text.replaceFirst("^`[^`]*`: ", "") : text.replaceAll("==== \\d+\\.", "");
    }
}
