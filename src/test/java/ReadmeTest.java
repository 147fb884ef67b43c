import java.io.File;
import java.io.IOException;
import java.nio.charset.StandardCharsets;
import java.nio.file.DirectoryStream;
import java.nio.file.Files;
import java.nio.file.Path;
import java.util.ArrayList;
import java.util.Arrays;
import java.util.HashMap;
import java.util.HashSet;
import java.util.List;
import java.util.Map;
import java.util.Random;
import java.util.Set;
import java.util.TreeSet;
import java.util.regex.Matcher;
import java.util.regex.Pattern;

/** What README.md says is so: its example, its commands, its tables, its list of tests and classes. */
public final class ReadmeTest {
    private static final Pattern ROW = Pattern.compile("\\| `(\\w+)\\(([^)]*)\\)`( \\*)? \\| .* \\| (.*) \\|");
    private static final Pattern FACE = Pattern.compile("public (?:int|long) (\\w+)\\(([^)]*)\\);");
    /** Their answers below 0 may be true numbers. */
    private static final Set<String> ANY = Set.of("above", "help", "act", "element");
    private static final Random RANDOM = new Random(13);
    private static String readme;

    public static void main(String[] args) throws Exception {
        readme = read("README.md");
        example();
        commands();
        calls();
        refusals();
        answers();
        numbers();
        doubtful();
        tests();
        classes();
        Check.finish();
    }

    private static String read(String path) throws IOException {
        return Files.readString(Path.of(path), StandardCharsets.UTF_8);
    }

    private static void so(String what, boolean is) {
        Check.due(what, is ? 1 : 0, 1);
    }

    private static List<String> blocks(String kind) {
        List<String> blocks = new ArrayList<>();
        Matcher m = Pattern.compile("(?s)```" + kind + "\\n(.*?)```").matcher(readme);
        while (m.find()) {
            blocks.add(m.group(1));
        }
        return blocks;
    }

    private static void example() throws IOException {
        Check.due("programs", blocks("java").size(), 1);
        so("the program is the example", blocks("java").get(0).equals(read("src/example/java/Serenade.java")));
    }

    private static void commands() throws Exception {
        List<String> blocks = blocks("sh");
        Check.due("commands", blocks.size(), 3);
        String printed = run(blocks.get(0));
        so("the example prints what is told, not " + printed, printed.equals(blocks("text").get(0)));
        so(".ci/run", blocks.get(1).equals(".ci/run\n") && Files.isExecutable(Path.of(".ci/run")));
        so("a single test", run(blocks.get(2)).contains(" answers, 0 not as due"));
    }

    private static String run(String block) throws Exception {
        Process shell = new ProcessBuilder("sh", "-c", "set -e\n" + block).redirectErrorStream(true).start();
        String printed = new String(shell.getInputStream().readAllBytes(), StandardCharsets.UTF_8);
        Check.due("exit code of " + block, shell.waitFor(), 0);
        return printed;
    }

    private static List<Matcher> rows() {
        List<Matcher> rows = new ArrayList<>();
        for (String line : readme.split("\\n")) {
            Matcher m = ROW.matcher(line);
            if (m.matches()) {
                rows.add(m);
            }
        }
        return rows;
    }

    /** Every call of the document's face in its order, with its arguments, and with a star if it may change something. */
    private static void calls() throws IOException {
        Matcher face = FACE.matcher(read("../shared/DOC.md"));
        int at = 0;
        List<Matcher> rows = rows();
        while (face.find()) {
            String wanted = face.group(1) + "(" + face.group(2).replaceAll("(int|long) ", "") + ")";
            so("a row for " + wanted, at < rows.size() && wanted.equals(rows.get(at).group(1) + "(" + rows.get(at).group(2) + ")"));
            at++;
        }
        Check.due("rows", rows.size(), at);
        Check.due("calls", rows.size(), Calls.NAMES.length);
        for (Matcher row : rows) {
            boolean star = row.group(3) != null;
            so("the star of " + row.group(1), star == HardCallsTest.CHANGING.contains(" " + row.group(1) + " "));
        }
    }

    /** What many calls answered below 0 is what the row of each call tells, no less and no more. */
    private static void refusals() throws ReflectiveOperationException {
        Map<String, Set<Long>> seen = seen();
        for (Matcher row : rows()) {
            String name = row.group(1);
            Set<Long> got = seen.get(name);
            if (name.equals("law")) {
                so("law's column", row.group(4).equals("-100 less the FAULT"));
                so("law's faults, not " + got, !got.isEmpty() && got.stream().allMatch(v -> v <= -100 && v >= -220));
                continue;
            }
            Set<Long> told = told(row.group(4));
            so(name + " answered " + got + ", told are " + told, ANY.contains(name) ? got.containsAll(told) : got.equals(told));
        }
    }

    private static Set<Long> told(String column) throws ReflectiveOperationException {
        Set<Long> told = new TreeSet<>();
        if (column.equals("none")) {
            return told;
        }
        for (String word : column.split(", ")) {
            if (word.equals("Long.MIN_VALUE")) {
                told.add(Long.MIN_VALUE);
            } else {
                told.add(word.startsWith("-") ? Long.parseLong(word) : DebtSerenade.class.getField(word).getInt(null));
            }
        }
        return told;
    }

    private static Map<String, Set<Long>> seen() {
        Map<String, Set<Long>> seen = new HashMap<>();
        for (String name : Calls.NAMES) {
            seen.put(name, new TreeSet<>());
        }
        for (int run = 0; run < 1500; run++) {
            DebtSerenade x = switch (run % 3) {
                case 0 -> Lanes.empty();
                case 1 -> Lanes.rich();
                default -> Lanes.full();
            };
            for (int i = 0; i < 100; i++) {
                String name = Calls.NAMES[RANDOM.nextInt(Calls.NAMES.length)];
                long got = Calls.answer(x, name, Calls.arguments(RANDOM, name));
                if (got < 0) {
                    seen.get(name).add(got);
                }
            }
        }
        return seen;
    }

    private static void answers() throws ReflectiveOperationException {
        Matcher m = Pattern.compile("\\| (-\\d+) \\| ([A-Z]+) \\|").matcher(readme);
        Set<String> names = new HashSet<>();
        while (m.find()) {
            names.add(m.group(2));
            Check.due(m.group(2), DebtSerenade.class.getField(m.group(2)).getInt(null), Integer.parseInt(m.group(1)));
        }
        so("the constants, not " + names, names.equals(Set.of("BAD", "NOT", "FULL", "STATE", "VOID")));
        for (int refusal = -14; refusal <= -11; refusal++) {
            so(refusal + " is told", readme.contains("\n| " + refusal + " | | "));
        }
    }

    /** The table of numbers: what each is at first, its first and its last. */
    private static void numbers() {
        Matcher m = Pattern.compile("\\| (\\d) \\| .* \\| (\\d+) \\.\\. (\\d+) \\| (.*) \\|").matcher(readme);
        int many = 0;
        while (m.find()) {
            int what = Integer.parseInt(m.group(1));
            Check.due("the next number", what, many);
            many++;
            DebtSerenade x = Lanes.pair(7);
            int first = what == 0 ? 1 : what == 5 ? 7 : Integer.parseInt(m.group(4));
            Check.due(what + " at first", x.of(0, what), first);
            int low = Integer.parseInt(m.group(2));
            int high = Integer.parseInt(m.group(3));
            Check.due(what + " below", x.mend(0, what, low - 1), DebtSerenade.VOID);
            Check.due(what + " above", x.mend(0, what, high + 1), DebtSerenade.VOID);
            Check.due(what + " least", x.mend(0, what, low), first);
            Check.due(what + " most", x.mend(0, what, high), low);
        }
        Check.due("numbers", many, 8);
    }

    /** The page's two hints for answers that do not tell whether the call was refused. */
    private static void doubtful() {
        DebtSerenade x = Lanes.pair(0);
        x.mend(0, 3, 0);
        x.debt(1, 2);
        x.mend(0, 5, 9);
        Check.due("-2 is a number here", x.help(1), -2);
        Check.due("as there are DEBTS", x.count(1), 2);
        Check.due("-2 is NOT here", Lanes.empty().help(1), -2);
        Check.due("as there are none", Lanes.empty().count(1), 0);
        Check.row(x, 0, 3, 4, Long.MIN_VALUE);
        Check.due("an element", x.element(0, 1), Long.MIN_VALUE);
        Check.due("is there", x.shift(0, 1, 0, 1, 1), 1);
        Check.due("is as it was", x.element(0, 1), Long.MIN_VALUE);
        Check.due("no element", x.element(0, 2), Long.MIN_VALUE);
        Check.due("is not there", x.shift(0, 2, 0, 2, 1), -13);
    }

    private static void tests() throws IOException {
        Set<String> there = new TreeSet<>();
        try (DirectoryStream<Path> files = Files.newDirectoryStream(Path.of("src/test/java"), "*.java")) {
            for (Path file : files) {
                String name = file.getFileName().toString().replace(".java", "");
                there.add(name);
                so(name + " is told", readme.contains("`" + name + "`") || readme.contains("`" + name + "."));
            }
        }
        Matcher m = Pattern.compile("`(\\w+Test)`").matcher(readme);
        while (m.find()) {
            so(m.group(1) + " is there", there.contains(m.group(1)));
        }
        for (String path : List.of("src/main/java/DebtSerenade.java", "../shared/DOC.md", "../shared/LANGUAGE.md",
            "../shared/tests", "NOTES.md")) {
            so(path + " is told and there", readme.contains(path) && new File(path).exists());
        }
    }

    private static void classes() {
        String built = readme.substring(readme.indexOf("## How it is built"));
        List<String> names = Arrays.stream(DebtSerenade.class.getDeclaredClasses()).map(Class::getSimpleName).toList();
        for (String name : names) {
            so("class " + name + " is told", built.contains("`" + name + "`"));
        }
        Matcher m = Pattern.compile("`([A-Z]\\w+)`").matcher(built);
        while (m.find()) {
            so("class " + m.group(1) + " is there", names.contains(m.group(1)));
        }
    }
}
