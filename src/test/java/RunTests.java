import java.io.File;
import java.io.IOException;
import java.nio.file.Files;
import java.nio.file.Path;
import java.nio.file.StandardCopyOption;
import java.util.Comparator;
import java.util.List;
import java.util.stream.Stream;

/** The command of README.md, on small projects: it runs the tests of both places and fails if one fails. */
final class RunTests {
    static final String COMMAND = ".ci/run";
    private static final String GOOD = "System.out.println(\"here is NAME \" + new LateSeekers());";
    private static final String WRONG = "System.exit(1);";
    private static final String BROKEN = "no Java";

    private RunTests() {
    }

    public static void main(String[] args) throws Exception {
        ends("all are good", true, GOOD, GOOD, GOOD);
        ends("a test of the project is wrong", false, WRONG, GOOD, GOOD);
        ends("another test of the project is wrong", false, GOOD, WRONG, GOOD);
        ends("a shared test is wrong", false, GOOD, GOOD, WRONG);
        ends("a test of the project doesn't compile", false, BROKEN, GOOD, GOOD);
        ends("a shared test doesn't compile", false, GOOD, GOOD, BROKEN);
        ends("there is no test of the project", false, null, null, GOOD);
        ends("there is no shared test", false, GOOD, GOOD, null);
        Check.end();
    }

    /** The bodies are those of two tests of the project and of a shared one; null: there is none. */
    private static void ends(String how, boolean well, String first, String second, String shared) throws Exception {
        Path folder = Files.createTempDirectory("run-tests");
        try {
            Path project = folder.resolve("main");
            Path command = project.resolve(COMMAND);
            Files.createDirectories(command.getParent());
            Files.copy(Path.of(COMMAND), command, StandardCopyOption.COPY_ATTRIBUTES);
            Path sources = Files.createDirectories(project.resolve("src/main/java"));
            Files.writeString(sources.resolve("LateSeekers.java"), "public final class LateSeekers { }\n");
            write(project.resolve("src/test/java"), "FirstTests", first);
            write(project.resolve("src/test/java"), "SecondTests", second);
            write(folder.resolve("shared/tests"), "SharedRuns", shared);
            String said = run(folder, command, how, well);
            for (String test : List.of("FirstTests", "SecondTests", "SharedRuns")) {
                if (well) Check.holds(how + ", it runs " + test + ": " + said, said.contains("here is " + test));
            }
        } finally {
            remove(folder);
        }
    }

    private static void write(Path folder, String name, String body) throws IOException {
        Files.createDirectories(folder);
        if (body == null) return;
        String main = "public static void main(String[] args) { " + body.replace("NAME", name) + " }";
        Files.writeString(folder.resolve(name + ".java"), "public final class " + name + " { " + main + " }\n");
    }

    /** From another folder than the project's own, as that must not count. */
    private static String run(Path folder, Path command, String how, boolean well) throws Exception {
        File output = folder.resolve("output").toFile();
        Process process = new ProcessBuilder(command.toString()).directory(folder.toFile())
            .redirectErrorStream(true).redirectOutput(output).start();
        int status = process.waitFor();
        String said = Files.readString(output.toPath());
        Check.holds(how + ", it ends with " + status + ": " + said, (status == 0) == well);
        return said;
    }

    private static void remove(Path folder) throws IOException {
        try (Stream<Path> files = Files.walk(folder)) {
            for (Path file : files.sorted(Comparator.reverseOrder()).toList()) Files.delete(file);
        }
    }
}
