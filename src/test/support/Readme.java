import java.io.IOException;
import java.nio.file.Files;
import java.nio.file.Path;
import java.util.ArrayList;
import java.util.List;
import java.util.regex.Matcher;
import java.util.regex.Pattern;

/** README.md by its blocks of code and its tables, and the document where it says the same. */
final class Readme {
    static final Path FILE = Path.of("README.md"), DOCUMENT = Path.of("../shared/DOC.md");

    private static int wrong = 0;

    private Readme() {
    }

    static void check(boolean right, String what) {
        if (!right) {
            wrong++;
            System.out.println(what);
        }
    }

    static void end() {
        System.out.println(wrong == 0 ? "README.md is right" : wrong + " things are not as README.md says");
        if (wrong != 0) {
            System.exit(1);
        }
    }

    static String text() throws IOException {
        return Files.readString(FILE);
    }

    static boolean hasDocument() {
        return Files.exists(DOCUMENT);
    }

    static String document() throws IOException {
        return Files.readString(DOCUMENT);
    }

    static boolean documentSays(String words) throws IOException {
        return !hasDocument() || document().contains(words);
    }

    static List<String> blocks(String language) throws IOException {
        List<String> blocks = new ArrayList<>();
        Matcher block = Pattern.compile("(?ms)^```" + language + "\n(.*?)^```$").matcher(text());
        while (block.find()) {
            blocks.add(block.group(1));
        }
        return blocks;
    }

    /** The lines of all tables whose first column has this title; each with the heading above it ahead. */
    static List<List<String>> table(String title) throws IOException {
        List<List<String>> rows = new ArrayList<>();
        String heading = "";
        boolean inside = false;
        for (String line : text().split("\n")) {
            if (line.startsWith("#")) {
                heading = line.replaceFirst("#+ ", "");
            }
            boolean isTitle = line.startsWith("| " + title + " |");
            inside = isTitle || inside && line.startsWith("|");
            if (inside && !isTitle && !line.startsWith("|---")) {
                rows.add(cells(heading, line));
            }
        }
        check(!rows.isEmpty(), "there is no table of " + title);
        return rows;
    }

    private static List<String> cells(String heading, String line) {
        List<String> cells = new ArrayList<>();
        cells.add(heading);
        for (String cell : line.substring(1, line.length() - 1).split("\\|", -1)) {
            cells.add(cell.strip());
        }
        return cells;
    }

    static String bare(String cell) {
        return cell.replace("`", "");
    }
}
