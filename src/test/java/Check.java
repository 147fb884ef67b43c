import java.io.IOException;
import java.nio.charset.StandardCharsets;
import java.nio.file.Files;
import java.nio.file.Path;

/** What the tests share: it counts and prints each answer that is not the one that is due. */
final class Check {
    private static final Path DOCUMENT = Path.of("../shared/DOC.md");
    private static int calls = 0;
    private static int wrong = 0;
    private static String document = null;
    private static String sentence = "";

    private Check() {
    }

    static void due(String call, long got, long want) {
        calls++;
        if (got != want) {
            wrong++;
            if (wrong <= 40) {
                System.out.println(sentence + call + " answered " + got + ", due is " + want);
            }
        }
    }

    /** The sentence of the document that the answers from now on are about: it must stand there, word by word. */
    static void says(String words) {
        sentence = "";
        due("the document says: " + words, document().contains(words) ? 1 : 0, 1);
        sentence = "'" + words + "': ";
    }

    /** The document in one line, each run of blanks as one. */
    private static String document() {
        if (document == null) {
            try {
                document = Files.readString(DOCUMENT, StandardCharsets.UTF_8).replaceAll("\\s+", " ");
            } catch (IOException e) {
                document = "";
            }
        }
        return document;
    }

    static void finish() {
        System.out.println(calls + " answers, " + wrong + " not as due");
        if (wrong != 0 || calls == 0) {
            System.exit(1);
        }
    }

    /** Feeds a text to THE TAPE and makes it THE LAW. */
    static int law(DebtSerenade x, String text) {
        for (int i = 0; i < text.length(); i++) {
            due("feed " + i + " of " + text, x.feed(text.charAt(i)), i + 1);
        }
        return x.law();
    }

    /** A ROW of a sort with these elements. */
    static void row(DebtSerenade x, int shelf, int sort, long... elements) {
        due("row", x.row(shelf, sort, elements.length), 1);
        for (int i = 0; i < elements.length; i++) {
            due("put", x.put(shelf, i, elements[i]), 1);
        }
    }

    static void people(DebtSerenade x, int... houses) {
        for (int i = 0; i < houses.length; i++) {
            due("person(" + houses[i] + ")", x.person(houses[i]), i);
        }
    }
}
