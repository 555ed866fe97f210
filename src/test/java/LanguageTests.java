import java.lang.management.ManagementFactory;
import java.lang.reflect.Constructor;
import java.lang.reflect.Field;
import java.lang.reflect.Method;
import java.lang.reflect.Modifier;
import java.nio.file.Files;
import java.nio.file.Path;
import java.util.HashSet;
import java.util.List;
import java.util.Set;
import java.util.TreeSet;
import java.util.regex.Matcher;
import java.util.regex.Pattern;

/** The face of the class, the rules of LANGUAGE.md that a test can look at, and how much room calls take. */
public final class LanguageTests {
    private static final Path SOURCE = Path.of("src/main/java/LineCites.java");
    private static final String[] FACE = {"feed 1", "work 0", "fault 0", "undo 0", "add 5", "drop 2", "alter 4",
        "cite 5", "strike 1", "see 2", "stretch 3", "as 3", "edition 2", "number 3", "meant 3", "left 3", "in 4",
        "through 5", "shift 4", "table 3", "share 2", "citation 2", "turned 3", "meet 3", "could 2", "score 2",
        "best 0", "image 1", "restore 1", "count 1"};
    private static int wrong = 0;

    private static void need(boolean is, String what) {
        if (is) return;
        wrong++;
        System.out.println("not so: " + what);
    }

    private static void face() {
        Set<String> methods = new TreeSet<>();
        Set<String> names = new HashSet<>();
        for (Method m : LineCites.class.getDeclaredMethods()) {
            if (m.isSynthetic() || Modifier.isPrivate(m.getModifiers())) continue;
            methods.add(m.getName() + " " + m.getParameterCount());
            names.add(m.getName());
            need(Modifier.isPublic(m.getModifiers()) && m.getReturnType() == int.class, m + " is public and answers int");
            for (Class<?> type : m.getParameterTypes()) need(type == int.class, m + " takes ints");
        }
        need(methods.equals(new TreeSet<>(List.of(FACE))), "the methods are those of the document: " + methods);
        Set<String> constants = new TreeSet<>();
        for (Field f : LineCites.class.getDeclaredFields()) {
            if (!f.isSynthetic() && !Modifier.isPrivate(f.getModifiers())) constants.add(f.getName());
        }
        need(constants.equals(Set.of("NONE", "BAD", "STATE", "FULL")), "the constants: " + constants);
        Constructor<?>[] made = LineCites.class.getDeclaredConstructors();
        need(made.length == 1 && made[0].getParameterCount() == 0 && Modifier.isPublic(made[0].getModifiers()),
                "one public constructor without arguments");
        need(Modifier.isFinal(LineCites.class.getModifiers()), "the class is final");
        need(LineCites.class.getDeclaredClasses().length <= 12, "twelve classes at most");
        for (Class<?> inside : LineCites.class.getDeclaredClasses()) inside(inside, names);
        for (Method m : LineCites.class.getDeclaredMethods()) {
            need(!Modifier.isPrivate(m.getModifiers()) || !names.contains(m.getName()), m + " has a name of its own");
        }
    }

    private static void inside(Class<?> inside, Set<String> names) {
        need(Modifier.isStatic(inside.getModifiers()) && !Modifier.isPublic(inside.getModifiers()), inside + " is static");
        int fields = 0;
        for (Field f : inside.getDeclaredFields()) {
            boolean isStatic = Modifier.isStatic(f.getModifiers());
            need(!isStatic || Modifier.isFinal(f.getModifiers()), f + " is final");
            if (!isStatic) fields++;
        }
        need(fields <= 20, inside + " has twenty fields at most");
        for (Method m : inside.getDeclaredMethods()) {
            need(!names.contains(m.getName()), m + " has a name of its own");
            need(m.getParameterCount() <= 7, m + " takes seven at most");
        }
    }

    private static void source() throws Exception {
        String text = Files.readString(SOURCE);
        String code = text.replaceAll("(?s)/\\*.*?\\*/", "").replaceAll("//[^\n]*", "");
        String[] outside = {"->", "::", "\\btry\\b", "\\bcatch\\b", "\\bthrow\\b", "\\bfinally\\b", "\\bsynchronized\\b",
            "\\bassert\\b", "\\bimport\\b", "\\bpackage\\b", "\\bprotected\\b", "\\bvar\\b", "\\bhashCode\\b",
            "\\btoString\\b", "\\bdouble\\b", "static\\s*\\{", "\\bObject\\b", "Exact\\b", "\\[\\]\\s*\\[\\]"};
        for (String word : outside) {
            Matcher found = Pattern.compile(word).matcher(code);
            need(!found.find(), "the source does without " + word);
        }
        Matcher library = Pattern.compile("\\b(Math|System|Arrays|Integer|Long)\\.(\\w+)").matcher(code);
        while (library.find()) {
            need(Set.of("Math.max", "Math.min", "System.arraycopy").contains(library.group()), library.group() + " is listed");
        }
        lengths(text);
    }

    private static void lengths(String text) {
        String[] lines = text.split("\n");
        for (int i = 0; i < lines.length; i++) {
            if (!lines[i].matches("( {4}| {8})(public|private|static|final|int|boolean|void).*\\) \\{")) continue;
            String end = lines[i].replaceAll("\\S.*", "") + "}";
            int j = i;
            while (j < lines.length && !lines[j].equals(end)) j++;
            need(j - i < 60, "short enough: " + lines[i]);
        }
    }

    private static long allocated() {
        com.sun.management.ThreadMXBean threads = (com.sun.management.ThreadMXBean) ManagementFactory.getThreadMXBean();
        return threads.getThreadAllocatedBytes(Thread.currentThread().getId());
    }

    /** Once ten acts and two images were kept, no call makes anything more. */
    private static void room() {
        LineCites x = new LineCites();
        String told = "w200;es0,200,1;eb0,9,1;r9,191,1;eh3,100,9;e";
        for (int i = 0; i < 2; i++) {
            for (int c = 0; c < told.length(); c++) x.feed(told.charAt(c));
            x.work();
            x.image(i);
        }
        for (int i = 0; i < 12; i++) x.cite(0, 1, 1, 1, 0);
        long before = allocated();
        long none = allocated() - before;
        before = allocated();
        for (int i = 0; i < 20; i++) {
            x.edition(0, 5);
            x.table(0, 1, 3);
            x.shift(1, 2, -1, 0);
            x.through(0, 5, 1, 2, 0);
            x.turned(0, 2, 2);
            x.add(3, 1, 0, 9, 1);
            x.alter(3, 0, 0, 2);
            x.drop(3, 0);
            x.cite(1, 0, 2, 4, 0);
            x.meet(0, 1, 2);
            x.could(0, 3);
            x.strike(1);
            x.see(3, 3);
            x.undo();
            x.best();
            x.image(i % 2);
            x.restore(1 - i % 2);
            x.feed('w');
            x.work();
        }
        long made = allocated() - before - none;
        need(made < 1000, "calls make no objects, but " + made + " bytes were made");
    }

    public static void main(String[] args) throws Exception {
        face();
        source();
        room();
        System.out.println("face, language and room: " + wrong + " not so");
        if (wrong != 0) System.exit(1);
    }
}
