import java.io.File;
import java.io.IOException;
import java.lang.reflect.Method;
import java.lang.reflect.Modifier;
import java.nio.charset.StandardCharsets;
import java.nio.file.Files;
import java.nio.file.Path;
import java.util.ArrayList;
import java.util.Arrays;
import java.util.List;
import java.util.TreeSet;
import java.util.regex.Matcher;
import java.util.regex.Pattern;

/** What README.md says of the use of the class and of its tests: the program and the commands there are tried. */
public final class ReadmeTest extends LobbyTest {
    private static final Path ROOT = Path.of("").toAbsolutePath();
    private static final Path CLASS = Path.of("src", "main", "java", "LobbyMaker.java");
    private static final Path TESTS = Path.of("src", "test", "java");

    private static List<String> found(String text, String pattern) {
        List<String> all = new ArrayList<>();
        Matcher m = Pattern.compile(pattern, Pattern.DOTALL | Pattern.MULTILINE).matcher(text);
        while (m.find()) {
            all.add(m.group(1));
        }
        return all;
    }

    private static List<String> blocks(String text, String kind) {
        return found(text, "^```" + kind + "\n(.*?)^```$");
    }

    /** What the commands print; the temporary directories that they ask for are made in that one. */
    private static String printed(String commands, Path in, Path temporary) throws IOException, InterruptedException {
        ProcessBuilder shell = new ProcessBuilder("sh", "-e", "-c", commands);
        shell.directory(in.toFile()).redirectError(ProcessBuilder.Redirect.INHERIT);
        shell.environment().put("TMPDIR", temporary.toString());
        Process run = shell.start();
        run.getOutputStream().close();
        String printed = new String(run.getInputStream().readAllBytes(), StandardCharsets.UTF_8);
        due("the exit code of " + commands, run.waitFor(), 0);
        return printed;
    }

    private static void use(String readme, Path own) throws IOException, InterruptedException {
        String program = blocks(readme, "java").get(0);
        String name = found(program, "public final class (\\w+)").get(0);
        due("the program's file is named", readme.contains("saved as `" + name + ".java`"), true);
        Files.copy(CLASS, own.resolve("LobbyMaker.java"));
        Files.writeString(own.resolve(name + ".java"), program);
        due("the program", printed(blocks(readme, "sh").get(0), own, own), blocks(readme, "text").get(0));
    }

    private static void calls(String readme) {
        String said = String.join("\n", found(readme, "^(- (?:Players|Parties|Matches|Time):.*?)\n(?=-|\n)"));
        TreeSet<String> named = new TreeSet<>(found(said, "`(\\w+)\\("));
        TreeSet<String> open = new TreeSet<>();
        for (Method m : LobbyMaker.class.getDeclaredMethods()) {
            if (Modifier.isPublic(m.getModifiers())) {
                open.add(m.getName());
                String ofOne = "\\b" + m.getName() + "\\((\\w+(?:, \\w+)*)?\\)";
                Matcher call = Pattern.compile(ofOne).matcher(said);
                int arguments = !call.find() || call.group(1) == null ? 0 : call.group(1).split(", ").length;
                due("the arguments of " + m.getName(), arguments, m.getParameterCount());
            }
        }
        due("the calls that are told of", named, open);
    }

    private static void tests(String readme, Path own) throws IOException, InterruptedException {
        List<String> commands = blocks(readme, "sh");
        due("the commands that are told of", commands.size(), 3);
        // It runs this test, too, so it can't be run here; that it is there is all that is tried.
        due("the command for all tests", commands.get(1), ".ci/run\n");
        due(".ci/run is there", Files.exists(ROOT.resolve(".ci").resolve("run")), true);
        due("one test by itself", printed(commands.get(2), ROOT, own), "the face is as due\n");
        TreeSet<String> there = new TreeSet<>();
        for (File file : TESTS.toFile().listFiles()) {
            there.add(file.getName().replace(".java", ""));
        }
        due("the tests that are told of", new TreeSet<>(found(readme, "^- `(\\w+)`:")), there);
    }

    private static void delete(File file) {
        File[] inside = file.listFiles();
        if (inside != null) {
            Arrays.stream(inside).forEach(ReadmeTest::delete);
        }
        due("a temporary file is deleted", file.delete(), true);
    }

    public static void main(String[] args) throws IOException, InterruptedException {
        String readme = Files.readString(Path.of("README.md"));
        Path own = Files.createTempDirectory("readme");
        try {
            use(readme, own);
            calls(readme);
            tests(readme, own);
        } finally {
            delete(own.toFile());
        }
        end("README.md holds", "things that README.md says do not hold");
    }
}
