import java.io.IOException;
import java.nio.file.DirectoryStream;
import java.nio.file.Files;
import java.nio.file.Path;
import java.util.ArrayList;
import java.util.List;
import java.util.Map;
import java.util.Set;
import java.util.TreeMap;
import java.util.TreeSet;
import java.util.regex.Matcher;
import java.util.regex.Pattern;

/**
 * Whether each sentence of the document has a test: the tests quote the sentence that they are about, by check.term and
 * check.promise, and what no test quotes is told here. Run from the project's folder.
 */
public final class SentencesTest {
    private static final Path DOCUMENT = Path.of("../shared/DOC.md");
    private static final Path TESTS = Path.of("src/test/java");
    private static final Pattern QUOTE =
            Pattern.compile("check\\.(?:term|promise)\\(\\s*(?:(\\d+),\\s*)?((?:\\s*\\+?\\s*\"[^\"]*\")+)\\);");
    private static final Pattern STRING = Pattern.compile("\"([^\"]*)\"");
    private static final Pattern PROMISE = Pattern.compile("(?m)^## Promise (\\d+): .*$");
    private static final Pattern SIGNATURE = Pattern.compile("(?m)^`[^`\n]*\\)[^`\n]*`(: |$)");
    // What stands between the sentences and promises nothing.
    private static final Pattern BETWEEN = Pattern.compile("(?m)(?s:```.*?```)|^#.*$|^Sounds, forms$"
            + "|^Sounds, classes, .* are asked\\.|^The constants: |^Ahead of the calls .* the interface says: ----"
            + "|sounds, forms\\.$|the lexicon\\.$|what is asked\\.$|what later calls answer is free");
    private static final int AHEAD = 0;

    public static void main(String[] args) throws IOException {
        Check check = new Check();
        Map<Integer, String> sections = sections(Files.readString(DOCUMENT));
        Map<Integer, List<String>> quotes = quotes();
        check.due("promises", sections.size() - 1, 30);
        check.due("quotes of promises that there are not", lacking(quotes.keySet(), sections.keySet()), Set.of());
        for (int number : sections.keySet()) {
            List<String> own = quotes.getOrDefault(number, List.of());
            check.due("quotes that section " + number + " has not", missing(own, sections.get(number)), Set.of());
            check.due("sentences of section " + number + " without a test", left(sections.get(number), own), Set.of());
        }
        check.close();
    }

    /** The text of each promise by its number, and what stands ahead of them. */
    private static Map<Integer, String> sections(String document) {
        Map<Integer, String> sections = new TreeMap<>();
        String text = document.substring(document.indexOf("An object is used"), document.indexOf("## Not promised"));
        Matcher promise = PROMISE.matcher(text);
        int number = AHEAD;
        int begin = 0;
        while (promise.find()) {
            sections.put(number, text.substring(begin, promise.start()));
            number = Integer.parseInt(promise.group(1));
            begin = promise.end();
        }
        sections.put(number, text.substring(begin));
        return sections;
    }

    private static Map<Integer, List<String>> quotes() throws IOException {
        Map<Integer, List<String>> quotes = new TreeMap<>();
        try (DirectoryStream<Path> tests = Files.newDirectoryStream(TESTS, "*Test.java")) {
            for (Path test : tests) {
                Matcher quote = QUOTE.matcher(Files.readString(test));
                while (quote.find()) {
                    int number = quote.group(1) == null ? AHEAD : Integer.parseInt(quote.group(1));
                    quotes.computeIfAbsent(number, none -> new ArrayList<>()).add(joined(quote.group(2)));
                }
            }
        }
        return quotes;
    }

    private static String joined(String strings) {
        StringBuilder joined = new StringBuilder();
        Matcher string = STRING.matcher(strings);
        while (string.find()) {
            joined.append(string.group(1));
        }
        return joined.toString();
    }

    private static Set<Integer> lacking(Set<Integer> numbers, Set<Integer> there) {
        Set<Integer> lacking = new TreeSet<>(numbers);
        lacking.removeAll(there);
        return lacking;
    }

    private static Set<String> missing(List<String> quotes, String section) {
        Set<String> missing = new TreeSet<>();
        for (String quote : quotes) {
            if (!section.contains(quote)) {
                missing.add(quote);
            }
        }
        return missing;
    }

    /** What is left of a section when all that is quoted is taken out, the longest quotes first. */
    private static Set<String> left(String section, List<String> quotes) {
        String text = SIGNATURE.matcher(BETWEEN.matcher(section).replaceAll("|")).replaceAll("|");
        List<String> longestFirst = new ArrayList<>(quotes);
        longestFirst.sort((one, other) -> other.length() - one.length());
        for (String quote : longestFirst) {
            text = text.replace(quote, "|");
        }
        Set<String> left = new TreeSet<>();
        for (String part : text.split("[|\n]")) {
            if (part.matches(".*\\w.*")) {
                left.add(part);
            }
        }
        return left;
    }
}
