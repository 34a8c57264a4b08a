import java.io.File;
import java.nio.charset.StandardCharsets;
import java.nio.file.Files;
import java.nio.file.Path;
import java.util.ArrayList;
import java.util.List;
import java.util.regex.Matcher;
import java.util.regex.Pattern;

/** What README.md says is so: the answers of its example, its commands, and the tests that it names. */
public final class ReadmeTest {
    private static final Pattern ANSWER = Pattern.compile("(int|long|boolean) (\\w+) = [^;]*; *// (-?\\w+).*");
    private static final String FIRST_FALSE = "if (%s != %s) { System.out.println(\"%s is \" + %s); System.exit(1); }";

    private static Path root;

    /** All blocks of code of a language, one line after another. */
    private static List<String> blocks(String readme, String language) {
        List<String> lines = new ArrayList<>();
        boolean within = false;
        for (String line : readme.split("\n")) {
            if (line.startsWith("```")) {
                within = line.equals("```" + language);
            } else if (within) {
                lines.add(line);
            }
        }
        return lines;
    }

    private static int run(Path where, String... command) throws Exception {
        return new ProcessBuilder(command).directory(where.toFile()).inheritIO().start().waitFor();
    }

    /** The example as it stands, but that each answer is compared with the one that stands behind it. */
    private static void example(String readme, Path work) throws Exception {
        StringBuilder text = new StringBuilder("public final class ReadmeExample {\n"
            + "public static void main(String[] args) {\n");
        int answers = 0;
        for (String line : blocks(readme, "java")) {
            text.append(line).append('\n');
            Matcher m = ANSWER.matcher(line);
            if (m.matches()) {
                answers++;
                text.append(String.format(FIRST_FALSE, m.group(2), m.group(3), m.group(2), m.group(2))).append('\n');
            }
        }
        Check.due("the example has answers", answers >= 25, true);
        Path file = work.resolve("ReadmeExample.java");
        Files.writeString(file, text.append("}\n}\n").toString(), StandardCharsets.UTF_8);
        String main = root.resolve("src/main/java/UmbrellaFlight.java").toString();
        Check.due("the example compiles", run(work, "javac", "-d", ".", main, file.toString()), 0);
        Check.due("the example's answers", run(work, "java", "-cp", ".", "ReadmeExample"), 0);
    }

    /** Run where they leave nothing behind in the project; .ci/run would run this test again. */
    private static void commands(String readme, Path work) throws Exception {
        Files.createSymbolicLink(work.resolve("src"), root.resolve("src"));
        Files.createSymbolicLink(work.resolve("test"), root.resolve("test"));
        int ran = 0;
        for (String line : blocks(readme, "bash")) {
            if (line.equals("bash .ci/run")) {
                Check.due(".ci/run is there", Files.isRegularFile(root.resolve(".ci/run")), true);
            } else {
                Check.due(line, run(work, "bash", "-c", line), 0);
            }
            ran++;
        }
        Check.due("commands", ran, 3);
    }

    private static void tests(String readme) {
        for (File file : root.resolve("test").toFile().listFiles()) {
            String name = file.getName().replace(".java", "");
            Check.due("README.md names " + name, readme.contains("`" + name + "`") || readme.contains("/" + name + "."), true);
        }
        Matcher m = Pattern.compile("`(\\w+Test)`").matcher(readme);
        while (m.find()) {
            Check.due("there is " + m.group(1), Files.isRegularFile(root.resolve("test/" + m.group(1) + ".java")), true);
        }
    }

    private static void remove(Path path) throws Exception {
        if (Files.isDirectory(path) && !Files.isSymbolicLink(path)) {
            for (File inside : path.toFile().listFiles()) {
                remove(inside.toPath());
            }
        }
        Files.delete(path);
    }

    public static void main(String[] args) throws Exception {
        root = Path.of("").toAbsolutePath();
        String readme = Files.readString(root.resolve("README.md"), StandardCharsets.UTF_8);
        Path work = Files.createTempDirectory("readme");
        try {
            example(readme, work);
            commands(readme, work);
        } finally {
            remove(work);
        }
        tests(readme);
        Check.end();
    }
}
