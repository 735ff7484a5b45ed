import java.io.IOException;
import java.lang.reflect.Method;
import java.lang.reflect.Modifier;
import java.nio.file.Files;
import java.nio.file.Path;
import java.util.ArrayList;
import java.util.Comparator;
import java.util.List;
import java.util.stream.Stream;

/**
 * What README.md shows as an example compiles and answers as README.md says: its program is saved and
 * its commands are run as they stand there, in a folder that has nothing but the class.
 */
public final class ReadmeTest {
    private static final Path README = Path.of("README.md");
    private static final Path PROGRAM = Path.of("src/main/java/LightRows.java");
    private static final String PRINTS = "System.out.println(";
    private static final String SAYS = "// ";
    private static final Checks CHECKS = new Checks();

    public static void main(String[] args) throws IOException, InterruptedException {
        List<String> readme = Files.readAllLines(README);
        List<List<String>> programs = blocks(readme, "java");
        List<List<String>> commands = blocks(readme, "sh");
        // A second example would go untested.
        CHECKS.same("how many programs README.md shows", programs.size(), 1);
        CHECKS.same("how many groups of commands README.md shows", commands.size(), 1);
        if (programs.size() == 1 && commands.size() == 1) {
            checkAnswers(programs.get(0), commands.get(0));
            checkCalls(String.join("\n", readme), String.join("\n", programs.get(0)));
        }
        CHECKS.end();
    }

    /** The lines of each fenced block of one language. */
    private static List<List<String>> blocks(List<String> lines, String language) {
        List<List<String>> blocks = new ArrayList<>();
        List<String> block = null;
        for (String line : lines) {
            if (line.equals("```" + language)) {
                block = new ArrayList<>();
                blocks.add(block);
            } else if (line.startsWith("```")) {
                block = null;
            } else if (block != null) {
                block.add(line);
            }
        }
        return blocks;
    }

    private static void checkAnswers(List<String> program, List<String> commands)
            throws IOException, InterruptedException {
        Path folder = Files.createTempDirectory("readme");
        try {
            Path copy = folder.resolve(PROGRAM);
            Files.createDirectories(copy.getParent());
            Files.copy(PROGRAM, copy);
            Files.write(folder.resolve("Example.java"), program);
            checkPrinted(program, run(folder, commands));
        } finally {
            remove(folder);
        }
    }

    private static List<String> run(Path folder, List<String> commands)
            throws IOException, InterruptedException {
        Process process = new ProcessBuilder("bash", "-e", "-c", String.join("\n", commands))
                .directory(folder.toFile()).redirectErrorStream(true).start();
        process.getOutputStream().close();
        String printed = new String(process.getInputStream().readAllBytes());
        CHECKS.same("README.md's commands' exit code", process.waitFor(), 0);
        return printed.lines().toList();
    }

    private static void checkPrinted(List<String> program, List<String> printed) {
        int next = 0;
        for (String line : program) {
            if (line.contains(PRINTS)) {
                String got = next < printed.size() ? printed.get(next) : "nothing";
                CHECKS.same("README.md's line " + line.strip(), got, said(line));
                next++;
            }
        }
        CHECKS.same("how many lines README.md's program prints", printed.size(), next);
    }

    /** What a line prints stands behind it, ahead of a colon if a reason follows. */
    private static String said(String line) {
        int start = line.indexOf(SAYS);
        return start < 0 ? "(README.md does not say)" : line.substring(start + SAYS.length()).split(":")[0];
    }

    private static void checkCalls(String readme, String program) {
        for (Method method : LightRows.class.getDeclaredMethods()) {
            if (Modifier.isPublic(method.getModifiers())) {
                String call = method.getName() + "(";
                CHECKS.same("README.md's program calls " + call, program.contains("row." + call), true);
                CHECKS.same("README.md's table has " + call, readme.contains("| `" + call), true);
            }
        }
    }

    private static void remove(Path folder) throws IOException {
        try (Stream<Path> inside = Files.walk(folder)) {
            for (Path path : inside.sorted(Comparator.reverseOrder()).toList()) {
                Files.delete(path);
            }
        }
    }
}
