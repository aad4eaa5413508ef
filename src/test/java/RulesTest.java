import java.nio.file.Files;
import java.nio.file.Path;
import java.util.List;
import java.util.regex.Pattern;

/** What of LANGUAGE.md can be seen in the source's text; run from the project's folder. */
public final class RulesTest {
    private static final String[] BARRED = {
        "->", "::", "\\bsynchronized\\b", "\\bassert\\b", "\\bfinally\\b", "\\btry\\b", "\\bcatch\\b", "\\bdouble\\b",
        "\\bfloat\\b", "Exact\\(", "\\bSystem\\.(?!arraycopy)", "\\bpackage\\b", "\\bprotected\\b", "\\bvar\\b",
        "\\bObject\\b", "hashCode", "toString", "static\\s*\\{", "\\bnull\\b", "\\bthis\\)", "while \\(true"};

    public static void main(String[] args) throws Exception {
        Path path = Path.of("src/main/java/DoorReader.java");
        String code = Files.readString(path).replaceAll("(?s)/\\*.*?\\*/", "").replaceAll("//.*", "");
        for (String barred : BARRED) {
            Check.holds("no " + barred, !Pattern.compile(barred).matcher(code).find());
        }
        for (String line : code.split("\n")) {
            if (line.startsWith("import ")) {
                Check.holds(line + " is allowed",
                        line.equals("import java.util.Arrays;") || line.equals("import java.util.NoSuchElementException;"));
            }
            if (line.contains("throw new")) {
                Check.holds(line + " is what the document names", line.contains("NoSuchElementException"));
            }
        }
        Check.holds("only written text", Files.readString(path).chars().allMatch(c -> c == 10 || c >= 32 && c < 127));
        shortMethods(Files.readAllLines(path));
        Check.finish("RulesTest");
    }

    private static void shortMethods(List<String> lines) {
        int start = -1;
        String indent = "";
        for (int i = 0; i < lines.size(); i++) {
            String line = lines.get(i);
            if (start < 0 && line.matches(" +(private|public) [^=;]*\\) ?(throws \\w+ )?\\{")) {
                start = i;
                indent = line.substring(0, line.indexOf('p'));
            } else if (start >= 0 && line.equals(indent + "}")) {
                Check.holds("short: " + lines.get(start).trim(), i - start <= 60);
                start = -1;
            }
        }
        Check.holds("methods were found to their ends", start < 0);
    }
}
