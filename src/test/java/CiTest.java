import java.io.File;
import java.io.IOException;
import java.nio.file.Files;
import java.nio.file.Path;
import java.nio.file.StandardCopyOption;
import java.util.Comparator;
import java.util.List;
import java.util.concurrent.TimeUnit;
import java.util.stream.Stream;

/** .ci/run, in small projects of its own, passes what is right and refuses what is not. */
public final class CiTest {
    private static final String GOOD = "public final class NAME { public static void main(String[] a) {"
        + " if (new LargerPacket().count(0) != 0) { System.exit(1); } } }";
    private static final String WRONG = "public final class NAME { public static void main(String[] a) { System.exit(1); } }";
    private static final String THROWS = "public final class NAME { public static void main(String[] a) { throw new IllegalStateException(); } }";
    private static final String BROKEN = "public final class NAME { int x = \"\"; }";
    private static final String SHARED = "shared/tests/ToldRuns.java", OWN = "main/src/test/java/OwnTest.java";
    private static final String MAIN = "main/src/main/java/LargerPacket.java";

    private static int wrong = 0;

    public static void main(String[] args) throws Exception {
        Path root = Files.createTempDirectory("ci");
        try {
            copy(root, ".ci/run");
            copy(root, "src/main/java/LargerPacket.java");
            write(root, SHARED, GOOD);
            write(root, OWN, GOOD);
            due(root, true, "2 passed, 0 failed", "all is right");
            replaced(root, SHARED, WRONG, "1 passed, 1 failed", "a test under ../shared/tests fails");
            replaced(root, OWN, WRONG, "1 passed, 1 failed", "a test of the project's own fails");
            replaced(root, OWN, THROWS, "1 passed, 1 failed", "a test throws");
            replaced(root, OWN, BROKEN, "1 passed, 1 failed", "a test does not compile");
            replaced(root, MAIN, BROKEN, "the class does not compile", "the class does not compile");
            Files.delete(root.resolve(SHARED));
            due(root, false, "1 passed, 1 failed", "there is no test under ../shared/tests");
        } finally {
            remove(root);
        }
        System.out.println(wrong == 0 ? ".ci/run passes and fails as it should" : wrong + " runs did not end as they should");
        if (wrong != 0) {
            System.exit(1);
        }
    }

    private static void replaced(Path root, String file, String program, String last, String why) throws Exception {
        String was = Files.readString(root.resolve(file));
        write(root, file, program);
        due(root, false, last, why);
        Files.writeString(root.resolve(file), was);
    }

    private static void due(Path root, boolean passes, String last, String why) throws Exception {
        File out = root.resolve("printed").toFile();
        // From another directory, since it must find the project by itself.
        Process process = new ProcessBuilder("sh", root.resolve("main/.ci/run").toString()).directory(root.toFile())
            .redirectErrorStream(true).redirectOutput(out).start();
        boolean ended = process.waitFor(120, TimeUnit.SECONDS);
        List<String> printed = Files.readAllLines(out.toPath());
        boolean right = ended && (process.exitValue() == 0) == passes && printed.get(printed.size() - 1).equals(last)
            && (passes || last.startsWith("the class") || printed.stream().anyMatch(p -> p.startsWith("FAILED: ") || p.startsWith("no test")));
        if (!right) {
            wrong++;
            System.out.println(why + ", but .ci/run printed\n" + String.join("\n", printed));
        }
    }

    private static void write(Path root, String file, String program) throws IOException {
        Path path = root.resolve(file);
        Files.createDirectories(path.getParent());
        Files.writeString(path, program.replace("NAME", path.getFileName().toString().replace(".java", "")));
    }

    private static void copy(Path root, String file) throws IOException {
        Path to = root.resolve("main").resolve(file);
        Files.createDirectories(to.getParent());
        Files.copy(Path.of(file), to, StandardCopyOption.COPY_ATTRIBUTES);
    }

    private static void remove(Path root) throws IOException {
        try (Stream<Path> files = Files.walk(root)) {
            for (Path file : files.sorted(Comparator.reverseOrder()).toList()) {
                Files.delete(file);
            }
        }
    }
}
