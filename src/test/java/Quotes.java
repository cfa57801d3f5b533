import java.io.IOException;
import java.nio.file.Files;
import java.nio.file.Path;
import java.util.ArrayList;
import java.util.List;
import java.util.regex.Matcher;
import java.util.regex.Pattern;
import java.util.stream.Stream;

/**
 * Tells the words of the document that no test names as its sentence, and sentences that tests
 * name but the document has not. It is no test: it helps to see what a changed document wants.
 */
public final class Quotes {
    private static final Pattern SENTENCE = Pattern.compile("\\bsentence\\(\"([^\"]*)\"\\)");

    public static void main(String[] args) throws IOException {
        String document = Files.readString(Path.of("../shared/DOC.md"));
        StringBuilder left = new StringBuilder(document);
        for (String quote : quotes()) {
            if (!document.contains(quote)) {
                System.out.println("not in the document: " + quote);
            }
            for (int at = document.indexOf(quote); at >= 0; at = document.indexOf(quote, at + 1)) {
                left.replace(at, at + quote.length(), "~".repeat(quote.length()));
            }
        }
        for (String line : left.toString().split("\n")) {
            if (line.matches(".*\\w.*")) {
                System.out.println(line.replaceAll("~+", " .. "));
            }
        }
    }

    private static List<String> quotes() throws IOException {
        List<String> quotes = new ArrayList<>();
        try (Stream<Path> files = Files.list(Path.of("src/test/java"))) {
            for (Path file : files.sorted().toList()) {
                Matcher found = SENTENCE.matcher(Files.readString(file));
                while (found.find()) {
                    quotes.add(found.group(1));
                }
            }
        }
        return quotes;
    }
}
