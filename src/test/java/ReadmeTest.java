import java.io.IOException;
import java.nio.charset.StandardCharsets;
import java.nio.file.Files;
import java.nio.file.Path;
import java.util.List;
import java.util.stream.Stream;

/** README.md: its example prints what it says, its commands are those of .ci/run, its table has every test. */
public final class ReadmeTest {
    private static final Path TESTS = Path.of("src/test/java");

    private ReadmeTest() {
    }

    public static void main(String[] args) throws Exception {
        String readme = Files.readString(Path.of("README.md"));
        example(block(readme, "java"), block(readme, "text"));
        commands(block(readme, "sh"), Files.readString(Path.of(".ci/run")));
        table(readme);
        Due.end("ReadmeTest");
    }

    private static String block(String readme, String kind) {
        String head = "```" + kind + "\n";
        int start = readme.indexOf(head);
        Due.compare("a block of " + kind, true, start >= 0);
        int first = start + head.length();
        return start < 0 ? "" : readme.substring(first, readme.indexOf("```", first));
    }

    private static void example(String source, String prints) throws IOException, InterruptedException {
        Path directory = Files.createTempDirectory("readme");
        Path file = Files.writeString(directory.resolve("Example.java"), source);
        String own = System.getProperty("java.class.path");
        Due.compare("javac Example.java", "", printed("javac", "-cp", own, "-d", directory.toString(), file.toString()));
        String path = directory + System.getProperty("path.separator") + own;
        Due.compare("java Example", prints, printed("java", "-cp", path, "Example"));
        for (Path made : List.of(file, directory.resolve("Example.class"), directory)) {
            Files.deleteIfExists(made);
        }
    }

    private static String printed(String... command) throws IOException, InterruptedException {
        Process process = new ProcessBuilder(command).redirectError(ProcessBuilder.Redirect.INHERIT).start();
        String text = new String(process.getInputStream().readAllBytes(), StandardCharsets.UTF_8);
        Due.compare("exit code of " + command[0], 0, process.waitFor());
        return text.replace(System.lineSeparator(), "\n");
    }

    private static void commands(String shown, String run) {
        for (String line : shown.split("\n")) {
            Due.compare(".ci/run has: " + line.strip(), true, run.contains(line.strip()));
        }
        for (String line : run.split("\n")) {
            String command = line.strip().replaceFirst("^run ", "");
            if (command.startsWith("java")) {
                Due.compare("README.md shows: " + command, true, shown.contains(command));
            }
        }
    }

    private static void table(String readme) throws IOException {
        try (Stream<Path> files = Files.list(TESTS)) {
            for (Path file : files.toList()) {
                String name = file.getFileName().toString().replace(".java", "");
                if (name.endsWith("Test")) {
                    Due.compare("the table has " + name, true, readme.contains("| `" + name + "` |"));
                }
            }
        }
    }
}
