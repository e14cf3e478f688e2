import java.io.File;
import java.io.IOException;
import java.lang.reflect.Field;
import java.lang.reflect.Modifier;
import java.nio.file.Files;
import java.nio.file.Path;
import java.util.ArrayList;
import java.util.Comparator;
import java.util.List;
import java.util.Set;
import java.util.TreeSet;
import java.util.concurrent.TimeUnit;
import java.util.regex.Matcher;
import java.util.regex.Pattern;
import java.util.stream.Stream;

/** README.md's example, its commands, and its tables of KINDS, of refusals and of tests are right. */
public final class ReadmeTest {
    private static final String CI = ".ci/run";

    public static void main(String[] args) throws Exception {
        checkExample();
        checkKinds();
        checkConstants();
        checkFindings();
        checkTests();
        Readme.end();
    }

    /** The commands are run one by one in a copy of the project, as README.md has them. */
    private static void checkExample() throws Exception {
        List<String> programs = Readme.blocks("java");
        Readme.check(programs.size() == 1, "there is not one example, but " + programs.size());
        Path copy = Files.createTempDirectory("readme");
        try {
            copyTree(Path.of("src"), copy.resolve("src"));
            Files.writeString(copy.resolve("Example.java"), programs.get(0));
            boolean hasRun = false;
            boolean hasTested = false;
            for (String command : String.join("", Readme.blocks("sh")).split("\n")) {
                if (command.equals(CI)) {
                    hasTested = Files.isExecutable(Path.of(CI));
                    continue;
                }
                List<String> printed = outputOf(command, copy);
                if (command.endsWith(" Example")) {
                    hasRun = true;
                    checkAnswers(programs.get(0), printed);
                }
            }
            Readme.check(hasRun, "no command runs the example");
            Readme.check(hasTested, "no command runs all tests, or it can't be run");
        } finally {
            removeTree(copy);
        }
    }

    private static void checkAnswers(String program, List<String> printed) {
        Pattern print = Pattern.compile(" *System\\.out\\.println\\((x\\.\\w+\\(.*\\))\\); *// (-?\\d+)\\b.*");
        int answers = 0;
        for (String line : program.split("\n")) {
            Matcher matcher = print.matcher(line);
            if (!matcher.matches()) {
                Readme.check(!line.contains("println"), "no answer stands behind " + line.strip());
                continue;
            }
            String got = answers < printed.size() ? printed.get(answers) : "nothing";
            Readme.check(got.equals(matcher.group(2)), matcher.group(1) + " answered " + got + ", README.md says " + matcher.group(2));
            answers++;
        }
        Readme.check(answers == printed.size() && answers > 0, "the example printed " + printed.size() + " answers, not " + answers);
    }

    private static List<String> outputOf(String command, Path where) throws Exception {
        File out = where.resolve("printed").toFile();
        Process process = new ProcessBuilder("sh", "-c", command).directory(where.toFile())
            .redirectErrorStream(true).redirectOutput(out).start();
        boolean ended = process.waitFor(120, TimeUnit.SECONDS);
        List<String> printed = Files.readAllLines(out.toPath());
        Readme.check(ended && process.exitValue() == 0, "this does not work: " + command + "\n" + String.join("\n", printed));
        return printed;
    }

    /** Of a PACKET of 5 GRAMS at the PRICE 40 that KEEPS 5 WEEKS. */
    private static void checkKinds() throws IOException {
        Readme.check(Readme.text().contains("of a PACKET of 5 GRAMS at the PRICE 40 that KEEPS 5 WEEKS:"), "the KINDS are of another PACKET");
        List<List<String>> kinds = Readme.table("letter");
        Readme.check(kinds.size() == 6, "there are " + kinds.size() + " KINDS");
        for (List<String> row : kinds) {
            String letter = Readme.bare(row.get(1));
            String kind = row.get(2);
            String name = row.get(3);
            Readme.check(Readme.documentSays(kind + " " + name + " (" + letter + ", " + (int) letter.charAt(0)),
                "the document has another " + row);
            LargerPacket x = houseOf("n199 " + letter + "5405");
            tells(x.packet(0, 0), x.asked(), kind, row);
            checkIsA(x, kinds, row.get(4), Integer.parseInt(kind), row);
            tells(1, x.costs(0, 3), row.get(5), row);
            x.card(1);
            tells(1, x.costs(0, 3), row.get(6), row);
            tells(x.packet(0, 5), x.asked(), row.get(7), row);
            tells(x.packet(0, 3), x.asked(), row.get(8), row);
        }
    }

    /** It IS of its own KIND and of the one that stands in the table, and of no other but PACKET. */
    private static void checkIsA(LargerPacket x, List<List<String>> kinds, String above, int own, List<String> row) {
        for (int kind = 1; kind < kinds.size(); kind++) {
            boolean is = x.mark(0, kind) != LargerPacket.FINDING;
            Readme.check(is == (kind == own || kinds.get(kind).get(3).equals(above)), "of KIND " + kind + ": " + row);
        }
    }

    private static void tells(int answer, int got, String due, List<String> row) {
        Readme.check(answer == 1 && due.equals(Integer.toString(got)), "the class tells " + got + ", not " + due + ", of " + row);
    }

    private static LargerPacket houseOf(String words) {
        LargerPacket x = new LargerPacket();
        x.text(0, words.length());
        for (int i = 0; i < words.length(); i++) {
            x.put(0, i, words.charAt(i));
        }
        Readme.check(x.house(0) > 0, words + " is no HOUSE");
        return x;
    }

    private static void checkConstants() throws Exception {
        Set<String> told = new TreeSet<>();
        for (List<String> row : Readme.table("constant")) {
            told.add(Readme.bare(row.get(1)) + " " + row.get(2));
        }
        Set<String> have = new TreeSet<>();
        for (Field f : LargerPacket.class.getFields()) {
            if (Modifier.isStatic(f.getModifiers())) {
                have.add(f.getName() + " " + f.getInt(null));
            }
        }
        Readme.check(told.equals(have), "the constants are " + have + ", README.md says " + told);
    }

    private static void checkFindings() throws IOException {
        List<List<String>> findings = Readme.table("FINDING");
        Readme.check(findings.size() == 5, "there are " + findings.size() + " FINDINGS");
        for (List<String> row : findings) {
            Readme.check(Readme.documentSays(" " + row.get(1) + " " + row.get(2) + " ("), "the document has another FINDING: " + row);
        }
    }

    /** Each test is named, each named one is there, and the sentence tests quote the promises that they are said to. */
    private static void checkTests() throws IOException {
        Set<String> have = new TreeSet<>();
        try (Stream<Path> files = Files.list(Path.of("src/test/java"))) {
            files.forEach(f -> have.add(f.getFileName().toString().replace(".java", "")));
        }
        Set<String> told = new TreeSet<>();
        for (List<String> row : Readme.table("test")) {
            String name = Readme.bare(row.get(1));
            told.add(name);
            if (name.endsWith("EdgesTest") && have.contains(name)) {
                Set<Integer> quoted = promisesQuotedBy(name);
                Readme.check(quoted.equals(promisesIn(row.get(2))), name + " quotes the promises " + quoted);
            }
        }
        Readme.check(told.equals(have), "the tests are " + have + ", README.md says " + told);
    }

    private static Set<Integer> promisesQuotedBy(String test) throws IOException {
        Set<Integer> quoted = new TreeSet<>();
        Matcher quote = Pattern.compile("says\\((\\d+), ").matcher(Files.readString(Path.of("src/test/java", test + ".java")));
        while (quote.find()) {
            quoted.add(Integer.parseInt(quote.group(1)));
        }
        quoted.remove(0);
        return quoted;
    }

    private static Set<Integer> promisesIn(String words) {
        Set<Integer> promises = new TreeSet<>();
        Matcher range = Pattern.compile("(\\d+)(?: \\.\\. (\\d+))?").matcher(words);
        while (range.find()) {
            int first = Integer.parseInt(range.group(1));
            int last = range.group(2) == null ? first : Integer.parseInt(range.group(2));
            for (int promise = first; promise <= last; promise++) {
                promises.add(promise);
            }
        }
        return promises;
    }

    private static void copyTree(Path from, Path to) throws IOException {
        for (Path file : tree(from)) {
            Path target = to.resolve(from.relativize(file).toString());
            if (Files.isDirectory(file)) {
                Files.createDirectories(target);
            } else {
                Files.copy(file, target);
            }
        }
    }

    private static void removeTree(Path root) throws IOException {
        List<Path> files = tree(root);
        files.sort(Comparator.reverseOrder());
        for (Path file : files) {
            Files.delete(file);
        }
    }

    private static List<Path> tree(Path root) throws IOException {
        try (Stream<Path> files = Files.walk(root)) {
            return new ArrayList<>(files.toList());
        }
    }
}
