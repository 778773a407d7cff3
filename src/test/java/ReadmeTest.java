import java.io.IOException;
import java.nio.charset.StandardCharsets;
import java.nio.file.Files;
import java.nio.file.Path;
import java.util.ArrayList;
import java.util.Comparator;
import java.util.List;
import java.util.Set;
import java.util.TreeSet;
import java.util.stream.Stream;

/** Follows README.md word for word, in a copy of the project. */
public final class ReadmeTest {
    private static final String PROGRAM = "Evening";
    private static final String INDENTED = "    ";
    private static final String TESTS = "src/test/java";

    private final Path copy;
    private final List<String> program = new ArrayList<>();
    private final List<String> commands = new ArrayList<>();
    private final Set<String> told = new TreeSet<>();

    private ReadmeTest(Path copy) {
        this.copy = copy;
    }

    public static void main(String[] args) throws IOException, InterruptedException {
        Path copy = Files.createTempDirectory("readme");
        try {
            ReadmeTest test = new ReadmeTest(copy);
            test.read();
            test.copyProject();
            test.followCommands();
            test.tableOfTests();
        } finally {
            remove(copy);
        }
        Due.end("ReadmeTest");
    }

    private void read() throws IOException {
        boolean isProgram = false;
        for (String line : Files.readAllLines(Path.of("README.md"))) {
            if (line.startsWith("```")) {
                isProgram = line.equals("```java");
            } else if (isProgram) {
                program.add(line);
            } else if (line.startsWith(INDENTED)) {
                commands.add(line.substring(INDENTED.length()));
            } else if (line.startsWith("| ")) {
                told.addAll(List.of(line.split("\\|")[1].trim().split(", ")));
            }
        }
    }

    private void copyProject() throws IOException {
        for (Path from : filesUnder(Path.of("src"))) {
            Path to = copy.resolve(from.toString());
            Files.createDirectories(to.getParent());
            Files.copy(from, to);
        }
        Files.write(copy.resolve(PROGRAM + ".java"), program);
    }

    private void followCommands() throws IOException, InterruptedException {
        // .ci/run runs this test, so it is the one command that is not followed here.
        Due.holds("README.md tells of .ci/run", commands.remove(".ci/run"));
        Due.holds(".ci/run is there to be run", Files.isExecutable(Path.of(".ci/run")));
        Due.is("other commands", 3, commands.size());
        boolean isRun = false;
        for (String command : commands) {
            String printed = printedBy(command);
            if (command.endsWith(" " + PROGRAM)) {
                isRun = true;
                Due.is("the program", saidInComments(), printed);
            }
        }
        Due.holds("the program is run", isRun);
    }

    private String printedBy(String command) throws IOException, InterruptedException {
        Process process = new ProcessBuilder("sh", "-c", command).directory(copy.toFile()).redirectErrorStream(true)
                .start();
        process.getOutputStream().close();
        String printed = new String(process.getInputStream().readAllBytes(), StandardCharsets.UTF_8);
        int exit = process.waitFor();
        Due.is(command + " printed " + printed + "and its exit code", 0, exit);
        return printed;
    }

    /** What the program's lines that print say they print. */
    private String saidInComments() {
        StringBuilder said = new StringBuilder();
        for (String line : program) {
            if (line.contains("System.out.println(")) {
                String comment = line.substring(line.indexOf("// ") + 3);
                said.append(comment.split(":")[0]).append('\n');
            }
        }
        return said.toString();
    }

    private void tableOfTests() throws IOException {
        Set<String> tests = new TreeSet<>();
        for (Path file : filesUnder(Path.of(TESTS))) {
            String name = file.getFileName().toString();
            if (name.endsWith("Test.java")) {
                tests.add(name.substring(0, name.length() - ".java".length()));
            }
        }
        told.removeAll(Set.of("test", "---"));
        Due.is("the table of tests", tests.toString(), told.toString());
    }

    private static List<Path> filesUnder(Path folder) throws IOException {
        try (Stream<Path> found = Files.walk(folder)) {
            return found.filter(Files::isRegularFile).sorted().toList();
        }
    }

    private static void remove(Path folder) throws IOException {
        try (Stream<Path> found = Files.walk(folder)) {
            for (Path path : found.sorted(Comparator.reverseOrder()).toList()) {
                Files.delete(path);
            }
        }
    }
}
