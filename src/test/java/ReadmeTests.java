import java.io.IOException;
import java.lang.reflect.InvocationTargetException;
import java.lang.reflect.Method;
import java.lang.reflect.Modifier;
import java.nio.file.Files;
import java.nio.file.Path;
import java.util.ArrayList;
import java.util.List;
import java.util.Set;
import java.util.TreeSet;
import java.util.regex.Matcher;
import java.util.regex.Pattern;
import java.util.stream.Stream;
import javax.tools.JavaCompiler;
import javax.tools.ToolProvider;

/** README.md: its lines of Java compile against the class and answer as they say, and its lists leave nothing out. */
final class ReadmeTests {
    private static final Pattern MADE = Pattern.compile("(?:int|long) (\\w+) = .*; +// (-?\\d+): .*");
    private static final Pattern CALLED = Pattern.compile("(\\w+\\..*\\)); +// (-?\\d+): .*");

    private ReadmeTests() {
    }

    public static void main(String[] args) throws Exception {
        String readme = Files.readString(Path.of("README.md"));
        int tests = readme.indexOf("\n## Tests\n");
        Check.holds("README.md tells of use and tests", readme.contains("\n## Use\n") && tests > 0);
        String use = readme.substring(0, Math.max(0, tests));
        String told = readme.substring(Math.max(0, tests));
        linesAnswer(blocks(use, "java"));
        allCallsAreListed(use);
        commandIsThere(blocks(told, "sh"));
        allTestsAreListed(told);
        namesAreThere(told);
        Check.end();
    }

    private static List<String> blocks(String text, String language) {
        List<String> lines = new ArrayList<>();
        Matcher block = Pattern.compile("(?s)```" + language + "\n(.*?)```").matcher(text);
        while (block.find()) lines.addAll(List.of(block.group(1).split("\n")));
        return lines;
    }

    /** The blocks are one program: what an upper one makes is used in those below it. */
    private static void linesAnswer(List<String> lines) throws IOException, ReflectiveOperationException {
        StringBuilder program = new StringBuilder("public final class ReadmeUse { public static void run() {\n");
        int told = 0;
        for (String line : lines) {
            Matcher made = MADE.matcher(line);
            Matcher called = CALLED.matcher(line);
            if (made.matches()) {
                program.append(line).append('\n').append(due(line, made.group(1), made.group(2)));
            } else if (called.matches()) {
                program.append(due(line, called.group(1), called.group(2)));
            } else {
                Check.holds("what stands behind // begins with the answer: " + line, !line.contains("//"));
                program.append(line).append('\n');
                continue;
            }
            told++;
        }
        Check.holds("README.md shows calls with their answers", told > 0);
        // beside the other tests' classes, where the machine looks for it
        Path folder = Path.of(System.getProperty("java.class.path"));
        Path source = folder.resolve("ReadmeUse.java");
        Files.writeString(source, program.append("} }\n"));
        JavaCompiler javac = ToolProvider.getSystemJavaCompiler();
        int status = javac.run(null, null, null, "-encoding", "UTF-8", "-cp", folder.toString(), "-d", folder.toString(), source.toString());
        Check.due("README.md's lines of Java compile", status, 0);
        if (status == 0) runUse();
    }

    private static String due(String line, String value, String want) {
        String quoted = line.replace("\\", "\\\\").replace("\"", "\\\"");
        return "Check.due(\"README.md, " + quoted + "\", " + value + ", " + want + "L);\n";
    }

    private static void runUse() throws ReflectiveOperationException {
        try {
            Class.forName("ReadmeUse").getMethod("run").invoke(null);
        } catch (InvocationTargetException e) {
            Check.holds("README.md's lines of Java threw " + e.getCause(), false);
        }
    }

    private static void allCallsAreListed(String use) {
        Set<String> listed = new TreeSet<>();
        Matcher row = Pattern.compile("(?m)^\\| [a-z][^|`]* \\| ((?:`\\w+` ?)+) \\|$").matcher(use);
        while (row.find()) {
            for (String call : row.group(1).split(" ")) {
                Check.holds("listed once: " + call, listed.add(call.replace("`", "")));
            }
        }
        Set<String> face = new TreeSet<>();
        for (Method m : LateSeekers.class.getDeclaredMethods()) {
            if (Modifier.isPublic(m.getModifiers())) face.add(m.getName());
        }
        Check.holds("README.md lists the calls of the class: " + listed, listed.equals(face));
    }

    private static void commandIsThere(List<String> commands) {
        Check.due("README.md's commands", commands.size(), 1);
        for (String command : commands) {
            Check.holds("RunTests tests this command: " + command, command.equals(RunTests.COMMAND));
            Check.holds("can be run: " + command, Files.isExecutable(Path.of(command)));
        }
    }

    private static void allTestsAreListed(String told) throws IOException {
        Set<String> listed = new TreeSet<>();
        Matcher row = Pattern.compile("(?m)^\\| `(\\w+Tests)` \\|").matcher(told);
        while (row.find()) Check.holds("listed once: " + row.group(1), listed.add(row.group(1) + ".java"));
        Set<String> there = new TreeSet<>();
        try (Stream<Path> files = Files.list(Path.of("src/test/java"))) {
            files.map(f -> f.getFileName().toString()).filter(n -> n.endsWith("Tests.java")).forEach(there::add);
        }
        Check.holds("README.md lists the tests that are there: " + listed + ", " + there, listed.equals(there));
    }

    private static void namesAreThere(String told) {
        Matcher name = Pattern.compile("`([A-Z]\\w+)[`.]").matcher(told);
        while (name.find()) {
            Check.holds("there is a " + name.group(1), Files.exists(Path.of("src/test/java", name.group(1) + ".java")));
        }
    }
}
