import java.lang.reflect.Method;
import java.lang.reflect.Modifier;
import java.nio.file.Files;
import java.nio.file.Path;
import java.util.HashMap;
import java.util.List;
import java.util.Map;
import java.util.Set;
import java.util.TreeSet;
import java.util.regex.Matcher;
import java.util.regex.Pattern;

/** The examples of README.md answer what the page says, and its table has every call of the face. */
public final class ReadmeTests {
    private static final Path PAGE = Path.of("README.md");
    private static final Pattern MADE = Pattern.compile("LineCites (\\w+) = new LineCites\\(\\);");
    private static final Pattern FED = Pattern.compile("for \\(char c : \"(.*)\"\\.toCharArray\\(\\)\\) (\\w+)\\.feed\\(c\\);");
    private static final Pattern CALL = Pattern.compile("(\\w+)\\.(\\w+)\\((.*?)\\); +// (-?\\d+|NONE|BAD|STATE|FULL)\\b.*");
    private static final Pattern ROW = Pattern.compile("\\| `(\\w+)\\((.*?)\\)` \\|.*");

    private static final Map<String, LineCites> objects = new HashMap<>();
    private static int examples = 0;
    private static int wrong = 0;

    private static void need(boolean is, String what) {
        if (is) return;
        wrong++;
        System.out.println("not so: " + what);
    }

    private static int constant(String word) throws Exception {
        return word.matches("-?\\d+") ? Integer.parseInt(word) : LineCites.class.getField(word).getInt(null);
    }

    private static void call(Matcher m, String line) throws Exception {
        String[] words = m.group(3).isEmpty() ? new String[0] : m.group(3).split(", ");
        Object[] values = new Object[words.length];
        Class<?>[] types = new Class<?>[words.length];
        for (int i = 0; i < words.length; i++) {
            values[i] = Integer.parseInt(words[i]);
            types[i] = int.class;
        }
        Object got = LineCites.class.getMethod(m.group(2), types).invoke(objects.get(m.group(1)), values);
        examples++;
        need(got.equals(constant(m.group(4))), line.trim() + " (answered " + got + ")");
    }

    private static void example(String line) throws Exception {
        Matcher made = MADE.matcher(line);
        Matcher fed = FED.matcher(line);
        Matcher call = CALL.matcher(line);
        if (made.matches()) {
            objects.put(made.group(1), new LineCites());
        } else if (fed.matches()) {
            for (char c : fed.group(1).toCharArray()) objects.get(fed.group(2)).feed(c);
        } else if (call.matches()) {
            call(call, line);
        } else {
            need(false, "an example that this test can read: " + line);
        }
    }

    private static void examples(List<String> page) throws Exception {
        boolean isInside = false;
        for (String line : page) {
            if (line.startsWith("```")) {
                isInside = line.equals("```java");
            } else if (isInside) {
                example(line);
            }
        }
        need(examples > 0, "there are examples");
    }

    private static void table(List<String> page) {
        Set<String> told = new TreeSet<>();
        for (String line : page) {
            Matcher row = ROW.matcher(line);
            if (!row.matches()) continue;
            String arguments = row.group(2);
            told.add(row.group(1) + " " + (arguments.isEmpty() ? 0 : arguments.split(",").length));
        }
        Set<String> face = new TreeSet<>();
        for (Method m : LineCites.class.getDeclaredMethods()) {
            if (Modifier.isPublic(m.getModifiers())) face.add(m.getName() + " " + m.getParameterCount());
        }
        need(told.equals(face), "the table has the calls of the face: " + told);
    }

    public static void main(String[] args) throws Exception {
        List<String> page = Files.readAllLines(PAGE);
        examples(page);
        table(page);
        System.out.println(examples + " examples of the page, " + wrong + " not so");
        if (wrong != 0) System.exit(1);
    }
}
