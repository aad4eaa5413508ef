import java.nio.file.Files;
import java.nio.file.Path;
import java.util.List;
import java.util.regex.Pattern;

/** What of LANGUAGE.md can be seen in the source's text; run from the project's folder. */
public final class RulesTest {
    private static final String[] BARRED = {
        "->", "::", "\\bsynchronized\\b", "\\bassert\\b", "\\bfinally\\b", "Exact\\(", "\\bSystem\\.(?!arraycopy)",
        "\\bpackage\\b", "\\bprotected\\b", "hashCode", "static\\s*\\{", "while \\(true", "\\[\\]\\[\\]\\[\\]",
        "\\bThread\\b", "\\bRandom\\b", "catch \\((Throwable|Error|Exception|ArrayIndexOutOfBounds|NullPointer|ClassCast"
            + "|NegativeArraySize|ArrayStore)"};
    private static final String[] IMPORTS = {"ArrayList", "Arrays", "Iterator", "List", "NoSuchElementException"};
    private static final String[] THROWN = {"IllegalStateException", "IllegalArgumentException",
        "IndexOutOfBoundsException", "ArithmeticException", "UnsupportedOperationException", "NoSuchElementException",
        "RuntimeException"};

    public static void main(String[] args) throws Exception {
        Path path = Path.of("src/main/java/DoorReader.java");
        String code = Files.readString(path).replaceAll("(?s)/\\*.*?\\*/", "").replaceAll("//.*", "")
                .replaceAll("(case [^:;]*|default\\s*)->", "$1:");
        for (String barred : BARRED) {
            Check.holds("no " + barred, !Pattern.compile(barred).matcher(code).find());
        }
        for (String line : code.split("\n")) {
            if (line.startsWith("import ")) {
                Check.holds(line + " is allowed", line.matches("import java\\.util\\.(" + String.join("|", IMPORTS) + ");"));
            }
            if (line.contains("throw ")) {
                Check.holds(line + " is allowed", line.matches(".*throw new (" + String.join("|", THROWN) + ")\\(.*"));
            }
        }
        Check.holds("only written text", code.chars().allMatch(c -> c == 10 || c >= 32 && c < 127));
        shortMethods(Files.readAllLines(path));
        Check.finish("RulesTest");
    }

    private static void shortMethods(List<String> lines) {
        int start = -1;
        String indent = "";
        for (int i = 0; i < lines.size(); i++) {
            String line = lines.get(i);
            if (start < 0 && line.matches(" +(private|public) [^=;]*\\) ?(throws \\w+ )?\\{")) {
                start = i;
                indent = line.substring(0, line.indexOf('p'));
            } else if (start >= 0 && line.equals(indent + "}")) {
                Check.holds("short: " + lines.get(start).trim(), i - start <= 60);
                start = -1;
            }
        }
        Check.holds("methods were found to their ends", start < 0);
    }
}
