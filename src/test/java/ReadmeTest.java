import java.lang.reflect.Method;
import java.lang.reflect.Modifier;
import java.nio.file.Files;
import java.nio.file.Path;
import java.util.ArrayList;
import java.util.List;
import java.util.regex.Matcher;
import java.util.regex.Pattern;

/** Plays the calls of README.md and looks at the answers that are written behind them; run from the project's folder. */
public final class ReadmeTest {
    private static final Pattern CALL = Pattern.compile("x\\.(\\w+)\\((.*?)\\);\\s*// (-?\\d+).*");

    public static void main(String[] args) throws Exception {
        String text = Files.readString(Path.of("README.md"));
        playCalls(partBetween(text, "```java\n", "```"));
        allNamed(partBetween(text, "| calls | for |", "\n\n"));
        Check.finish("ReadmeTest");
    }

    private static String partBetween(String text, String start, String end) {
        int from = text.indexOf(start);
        int to = from < 0 ? -1 : text.indexOf(end, from + start.length());
        Check.holds("README.md has a part from " + start.trim(), to >= 0);
        return to < 0 ? "" : text.substring(from + start.length(), to);
    }

    private static void playCalls(String code) throws ReflectiveOperationException {
        DoorReader x = new DoorReader();
        for (String line : code.split("\n")) {
            if (!line.startsWith("x.")) {
                Check.holds(line + " is a comment or makes the object",
                        line.startsWith("//") || line.equals("DoorReader x = new DoorReader();"));
                continue;
            }
            Matcher m = CALL.matcher(line);
            Check.holds(line + " is a call with its answer", m.matches());
            if (m.matches()) {
                Check.due(line, Integer.parseInt(m.group(3)), answer(x, m.group(1), m.group(2)));
            }
        }
    }

    private static int answer(DoorReader x, String name, String written) throws ReflectiveOperationException {
        List<Class<?>> types = new ArrayList<>();
        List<Object> values = new ArrayList<>();
        for (String word : written.isEmpty() ? new String[0] : written.split(", ")) {
            boolean isFlag = word.equals("true") || word.equals("false");
            types.add(isFlag ? boolean.class : int.class);
            values.add(isFlag ? (Object) Boolean.valueOf(word) : (Object) Integer.decode(word));
        }
        Method method = DoorReader.class.getMethod(name, types.toArray(new Class<?>[0]));
        return (Integer) method.invoke(x, values.toArray());
    }

    private static void allNamed(String table) {
        for (Method method : DoorReader.class.getDeclaredMethods()) {
            if (Modifier.isPublic(method.getModifiers())) {
                Check.holds("README.md names " + method.getName(), table.contains("`" + method.getName() + "`"));
            }
        }
    }
}
