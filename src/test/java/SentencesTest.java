import java.io.IOException;
import java.nio.file.Files;
import java.nio.file.Path;
import java.util.ArrayList;
import java.util.List;
import java.util.regex.Matcher;
import java.util.regex.Pattern;
import java.util.stream.Stream;

/**
 * The tests quote, in comments that begin with "Promise n:" or "Terms:", the sentences of the document that they look
 * at. Here it is looked up that the document says so, and that no sentence of 'Terms' and no exception goes unquoted.
 */
public final class SentencesTest {
    private static final Check C = new Check("SentencesTest");
    private static final Pattern QUOTE = Pattern.compile(
            "(?m)^ *// (Promise \\d+|Terms): (.*(?:\\n *// (?!Promise \\d|Terms:).*)*)");

    private record Quote(String place, String text) {
    }

    public static void main(String[] args) throws IOException {
        String document = Files.readString(Path.of("../shared/DOC.md"));
        List<Quote> quotes = quotes();
        String terms = section(document, "## Terms", "## Promise 1:");
        for (Quote quote : quotes) {
            String place = quote.place.equals("Terms") ? plain(terms) : plain(promise(document, quote.place));
            C.same(quote + " is in the document", true, place.contains(quote.text));
        }
        for (String sentence : plain(terms).split("(?<=\\.) (?=[A-Z])")) {
            C.same("Terms: " + sentence + " is quoted", true, isQuoted(quotes, "Terms", sentence));
        }
        Matcher heads = Pattern.compile("(?m)^## (Promise \\d+):").matcher(document);
        int promises = 0;
        while (heads.find()) {
            promises++;
            String place = heads.group(1);
            C.same(place + " is quoted", true, quotes.stream().anyMatch(quote -> quote.place.equals(place)));
            for (String line : promise(document, place).split("\n")) {
                if (line.startsWith("Throws ")) {
                    C.same(place + ": " + line + " is quoted", true, quotes.contains(new Quote(place, plain(line))));
                }
            }
        }
        C.same("promises", 46, promises);
        C.end();
    }

    private static List<Quote> quotes() throws IOException {
        List<Quote> quotes = new ArrayList<>();
        try (Stream<Path> files = Files.list(Path.of("src/test/java"))) {
            for (Path file : files.sorted().toList()) {
                Matcher matcher = QUOTE.matcher(Files.readString(file));
                while (matcher.find()) {
                    quotes.add(new Quote(matcher.group(1), plain(matcher.group(2).replaceAll("\n *// ", " "))));
                }
            }
        }
        return quotes;
    }

    private static boolean isQuoted(List<Quote> quotes, String place, String sentence) {
        for (Quote quote : quotes) {
            if (quote.place.equals(place) && (sentence.contains(quote.text) || quote.text.contains(sentence))) {
                return true;
            }
        }
        return false;
    }

    private static String promise(String document, String place) {
        return section(document, "## " + place + ":", "\n## ");
    }

    private static String section(String document, String from, String to) {
        int start = document.indexOf(from);
        if (start < 0) {
            return "";
        }
        int end = document.indexOf(to, start + from.length());
        return document.substring(start + from.length(), end < 0 ? document.length() : end);
    }

    private static String plain(String text) {
        return text.replaceAll("<h2>[^<]*</h2>", " ").replaceAll("\\s+", " ").trim();
    }
}
