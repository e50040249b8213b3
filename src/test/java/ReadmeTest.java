import java.lang.reflect.Method;
import java.lang.reflect.Modifier;
import java.nio.file.Files;
import java.nio.file.Path;
import java.util.ArrayList;
import java.util.List;
import java.util.Set;
import java.util.TreeSet;
import java.util.regex.Matcher;
import java.util.regex.Pattern;

/** What README.md shows, run line by line: each call is answered by the number that stands behind it. */
public final class ReadmeTest {
    private static final Check C = new Check("ReadmeTest");
    private static final Pattern NEW = Pattern.compile("DawnTales x = new DawnTales\\(\\);");
    private static final Pattern TEXT = Pattern.compile("for \\(char c : \"(.*)\"\\.toCharArray\\(\\)\\) \\{");
    private static final Pattern CALL = Pattern.compile("x\\.(\\w+)\\(([-0-9, ]*)\\); +// (-?[0-9]+)\\b.*");
    private static final Set<String> CALLED = new TreeSet<>();
    private static DawnTales x = new DawnTales();

    public static void main(String[] args) throws Exception {
        C.sentence("The public face", "public DawnTales();");
        List<String> lines = shown();
        for (int i = 0; i < lines.size(); i++) {
            i += run(lines, i);
        }
        C.same("the calls that are shown", CALLED.toString(), face().toString());
        C.finish();
    }

    private static List<String> shown() throws Exception {
        List<String> lines = new ArrayList<>();
        boolean isCode = false;
        for (String line : Files.readAllLines(Path.of("README.md"))) {
            if (line.startsWith("```")) {
                isCode = line.equals("```java");
            } else if (isCode) {
                lines.add(line.strip());
            }
        }
        return lines;
    }

    /** How many more lines than one were run. */
    private static int run(List<String> lines, int i) throws Exception {
        String line = lines.get(i);
        Matcher text = TEXT.matcher(line);
        Matcher call = CALL.matcher(line);
        if (NEW.matcher(line).matches()) {
            x = new DawnTales();
        } else if (text.matches() && i + 3 <= lines.size() && lines.subList(i + 1, i + 3).equals(List.of("x.type(c);", "}"))) {
            Check.write(x, text.group(1));
            return 2;
        } else if (call.matches()) {
            C.due(line, ask(call.group(1), call.group(2)), Long.parseLong(call.group(3)));
        } else {
            C.same("a line that can't be run", line, "");
        }
        return 0;
    }

    private static long ask(String name, String numbers) throws Exception {
        String[] each = numbers.isBlank() ? new String[0] : numbers.split(", ");
        Object[] told = new Object[each.length];
        Class<?>[] types = new Class<?>[each.length];
        for (int i = 0; i < each.length; i++) {
            told[i] = Integer.valueOf(each[i]);
            types[i] = int.class;
        }
        CALLED.add(name);
        return ((Number) DawnTales.class.getMethod(name, types).invoke(x, told)).longValue();
    }

    private static Set<String> face() {
        Set<String> names = new TreeSet<>();
        for (Method m : DawnTales.class.getDeclaredMethods()) {
            if (Modifier.isPublic(m.getModifiers())) {
                names.add(m.getName());
            }
        }
        return names;
    }
}
