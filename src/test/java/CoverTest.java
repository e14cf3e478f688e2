import java.io.IOException;
import java.nio.file.Files;
import java.nio.file.Path;
import java.util.ArrayList;
import java.util.List;
import java.util.regex.Matcher;
import java.util.regex.Pattern;
import java.util.stream.Stream;

/** Every word of every promise, and of the terms, is quoted by a test of the sentence in which it stands. */
public final class CoverTest {
    private static final Path DOCUMENT = Path.of("../shared/DOC.md"), TESTS = Path.of("src/test/java");
    private static final Pattern QUOTE = Pattern.compile("says\\((\\d+), \"([^\"]*)\"\\);");
    /** Not sentences of their own: signs of the document's form, and the numbers of its parts. */
    private static final Pattern FORM = Pattern.compile("```(text)?|======== \\d|#+ Terms|(?s:Ahead of the calls.*?---- \\d+ )");

    private static int wrong = 0;

    public static void main(String[] args) throws IOException {
        List<List<String>> quotes = quotes();
        if (!Files.exists(DOCUMENT)) {
            System.out.println("the document is not here");
            return;
        }
        String document = Files.readString(DOCUMENT);
        int terms = document.indexOf("## Terms");
        String ahead = document.substring(terms, document.indexOf("## Promise 1:"));
        cover(0, partsThatRule(ahead), quotes.get(0));
        for (int promise = 1; promise <= 46; promise++) {
            int from = document.indexOf("## Promise " + promise + ":");
            from = document.indexOf("`: ", from) + 3;
            cover(promise, document.substring(from, document.indexOf("\n## ", from)), quotes.get(promise));
        }
        System.out.println(wrong == 0 ? "every sentence has its test" : wrong + " sentences have none");
        if (wrong != 0) {
            System.exit(1);
        }
    }

    private static List<List<String>> quotes() throws IOException {
        List<List<String>> quotes = new ArrayList<>();
        for (int promise = 0; promise <= 46; promise++) {
            quotes.add(new ArrayList<>());
        }
        List<Path> tests;
        try (Stream<Path> files = Files.list(TESTS)) {
            tests = files.filter(f -> f.toString().endsWith("EdgesTest.java")).toList();
        }
        for (Path test : tests) {
            Matcher matcher = QUOTE.matcher(Files.readString(test));
            while (matcher.find()) {
                quotes.get(Integer.parseInt(matcher.group(1))).add(matcher.group(2));
            }
        }
        return quotes;
    }

    /** Of what the interface says ahead of groups of calls only two titles rule anything. */
    private static String partsThatRule(String ahead) {
        StringBuilder kept = new StringBuilder();
        for (String line : ahead.split("\n")) {
            if (!line.startsWith("Ahead of the calls") || line.contains("(aside, now)") || line.contains("a ROW of pairs")) {
                kept.append(FORM.matcher(line).replaceAll("")).append('\n');
            }
        }
        return kept.toString();
    }

    private static void cover(int promise, String words, List<String> quotes) {
        char[] left = words.toCharArray();
        for (String quote : quotes) {
            for (int at = words.indexOf(quote); at >= 0; at = words.indexOf(quote, at + 1)) {
                java.util.Arrays.fill(left, at, at + quote.length(), ' ');
            }
        }
        String rest = new String(left).strip().replaceAll("\\s+", " ");
        if (!rest.isEmpty()) {
            wrong++;
            System.out.println("promise " + promise + ", no test quotes: " + rest);
        }
    }
}
