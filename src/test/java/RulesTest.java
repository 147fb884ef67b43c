import java.lang.reflect.Constructor;
import java.lang.reflect.Field;
import java.lang.reflect.Method;
import java.lang.reflect.Modifier;
import java.nio.charset.StandardCharsets;
import java.nio.file.Files;
import java.nio.file.Path;
import java.util.List;
import java.util.Set;
import java.util.TreeSet;
import java.util.regex.Matcher;
import java.util.regex.Pattern;

/** The rules of LANGUAGE.md that can be seen from outside: the face, words, sizes, static state. */
public final class RulesTest {
    private static final Set<String> FACE = Set.of("person", "debt", "debts", "mend", "of", "feed", "law", "moves",
        "later", "paid", "paidOff", "above", "richest", "round", "settle", "best", "help", "lane", "crowd", "judge",
        "hearts", "share", "byTurns", "drawn", "evening", "lend", "letOff", "led", "image", "back", "undo", "redo",
        "body", "act", "trace", "keep", "row", "put", "element", "shift", "taken", "count");

    public static void main(String[] args) throws Exception {
        face();
        classes();
        source();
        Check.finish();
    }

    private static void face() {
        Class<?> c = DebtSerenade.class;
        Check.due("public final", c.getModifiers(), Modifier.PUBLIC | Modifier.FINAL);
        Set<String> seen = new TreeSet<>();
        for (Method m : c.getDeclaredMethods()) {
            boolean open = Modifier.isPublic(m.getModifiers());
            Check.due(m.getName() + " is private, or of the face", open || Modifier.isPrivate(m.getModifiers()) ? 1 : 0, 1);
            Check.due(m.getName() + " is of the face alone", FACE.contains(m.getName()) == open ? 1 : 0, 1);
            if (open) {
                Check.due(m.getName() + " twice", seen.add(m.getName()) ? 1 : 0, 1);
            }
        }
        Check.due("methods of the face", seen.size(), FACE.size());
        Check.due("constructors", c.getDeclaredConstructors().length, 1);
        int constants = 0;
        for (Field f : c.getDeclaredFields()) {
            if (Modifier.isPublic(f.getModifiers())) {
                constants++;
            } else {
                Check.due(f.getName() + " is private", Modifier.isPrivate(f.getModifiers()) ? 1 : 0, 1);
            }
        }
        Check.due("constants", constants, 5);
    }

    private static void classes() {
        Class<?>[] inside = DebtSerenade.class.getDeclaredClasses();
        Check.due("some twelve classes", inside.length <= 11 ? 1 : 0, 1);
        state(DebtSerenade.class);
        for (Class<?> c : inside) {
            Check.due(c.getName() + " is static", Modifier.isStatic(c.getModifiers()) ? 1 : 0, 1);
            state(c);
            for (Method m : c.getDeclaredMethods()) {
                Check.due(m + " bears a name of the face", FACE.contains(m.getName()) ? 1 : 0, 0);
                Check.due(m + " has seven parameters at most", m.getParameterCount() <= 7 ? 1 : 0, 1);
            }
            for (Constructor<?> k : c.getDeclaredConstructors()) {
                Check.due(k + " has seven parameters at most", k.getParameterCount() <= 7 ? 1 : 0, 1);
            }
        }
    }

    private static void state(Class<?> c) {
        int fields = 0;
        for (Field f : c.getDeclaredFields()) {
            if (Modifier.isStatic(f.getModifiers())) {
                Check.due(f + " is final", Modifier.isFinal(f.getModifiers()) ? 1 : 0, 1);
            } else {
                fields++;
            }
        }
        Check.due(c.getName() + " has some twenty fields at most", fields <= 20 ? 1 : 0, 1);
    }

    private static void source() throws Exception {
        String text = Files.readString(Path.of("src/main/java/DebtSerenade.java"), StandardCharsets.ISO_8859_1);
        Check.due("signs 10, 32 to 126 alone", text.matches("(?s)[\\n -~]*") ? 1 : 0, 1);
        String code = text.replaceAll("(?s)/\\*.*?\\*/", "").replaceAll("//[^\\n]*", "");
        String words = "\\b(throw|throws|try|catch|synchronized|assert|package|hashCode|toString|Exact|while\\s*\\(true"
            + "|float|double|Object|System\\.(?!arraycopy)\\w+|Random|Thread)\\b";
        Matcher m = Pattern.compile(words).matcher(code);
        while (m.find()) {
            Check.due("the word " + m.group(), 1, 0);
        }
        Matcher imports = Pattern.compile("import ([\\w.]+);").matcher(code);
        while (imports.find()) {
            Check.due("import " + imports.group(1), List.of("java.util.Arrays").contains(imports.group(1)) ? 1 : 0, 1);
        }
        making(code.split("\\n"));
        lengths(text.split("\\n"));
    }

    /** Objects and rows are made with the lane alone: in fields, and in constructors, which bear no type. */
    private static void making(String[] lines) {
        String method = "";
        for (String line : lines) {
            if (line.matches(" {4,8}[\\w ]+\\(.*\\) \\{") && !line.matches(" *(if|for|while|switch) .*")) {
                method = line.trim();
            }
            boolean field = line.matches(" {4,8}(private )?final [\\w\\[\\]]+ \\w+ = new .*;");
            if (line.matches(".*\\bnew\\b.*") && !field) {
                Check.due("new in " + method, method.matches("(public )?[A-Z]\\w*\\(.*") ? 1 : 0, 1);
            }
        }
    }

    private static void lengths(String[] lines) {
        int from = -1;
        String open = "";
        for (int i = 0; i < lines.length; i++) {
            Matcher m = Pattern.compile("^( {4}| {8})(?!.*\\bclass\\b)\\S.*\\) \\{$").matcher(lines[i]);
            boolean head = m.matches() && lines[i].matches(" *(public|private|static|final|int|long|boolean|void|String|[A-Z]\\w*).*\\(.*");
            if (head && from < 0) {
                from = i;
                open = m.group(1);
            } else if (from >= 0 && lines[i].equals(open + "}")) {
                Check.due("lines of " + lines[from].trim(), i - from + 1 <= 60 ? 1 : 0, 1);
                from = -1;
            }
        }
    }
}
