import java.io.IOException;
import java.nio.charset.StandardCharsets;
import java.nio.file.DirectoryStream;
import java.nio.file.Files;
import java.nio.file.Path;
import java.util.ArrayList;
import java.util.List;
import java.util.regex.Matcher;
import java.util.regex.Pattern;

/** For each promise the tests of boundary cases quote words that stand under its own heading. */
public final class SentencesTest {
    private static final Pattern QUOTE = Pattern.compile("says\\((\"[^\"]*\"(?:\\s*\\+\\s*\"[^\"]*\")*)\\)");
    private static final Pattern PROMISE = Pattern.compile("## Promise (\\d+): [^#]*");

    public static void main(String[] args) throws IOException {
        List<String> quotes = quotes();
        String document = Files.readString(Path.of("../shared/DOC.md"), StandardCharsets.UTF_8);
        Matcher promise = PROMISE.matcher(document);
        int last = 0;
        while (promise.find()) {
            int number = Integer.parseInt(promise.group(1));
            Check.due("the next promise", number, last + 1);
            last = number;
            String words = promise.group().replaceAll("\\s+", " ");
            Check.due("promise " + number + " is quoted", quotes.stream().anyMatch(words::contains) ? 1 : 0, 1);
        }
        Check.due("promises", last, 43);
        Check.finish();
    }

    private static List<String> quotes() throws IOException {
        List<String> quotes = new ArrayList<>();
        try (DirectoryStream<Path> tests = Files.newDirectoryStream(Path.of("src/test/java"), "Edge*Test.java")) {
            for (Path test : tests) {
                Matcher quote = QUOTE.matcher(Files.readString(test, StandardCharsets.UTF_8));
                while (quote.find()) {
                    quotes.add(quote.group(1).replaceAll("\"\\s*\\+\\s*\"", "").replace("\"", ""));
                }
            }
        }
        return quotes;
    }
}
