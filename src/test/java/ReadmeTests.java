import java.io.File;
import java.io.IOException;
import java.nio.charset.StandardCharsets;
import java.nio.file.Files;
import java.nio.file.Path;
import java.util.ArrayList;
import java.util.List;
import java.util.Set;
import java.util.TreeSet;
import java.util.regex.Matcher;
import java.util.regex.Pattern;
import javax.tools.JavaCompiler;
import javax.tools.ToolProvider;

/** README.md is right: its example, as it stands, prints what it shows, and its calls are those of the class. */
public final class ReadmeTests {
    public static void main(String[] args) throws IOException, InterruptedException {
        String page = Files.readString(Path.of(args[2]));
        example(page, Path.of(args[0]));
        calls(page);
        Check.end("ReadmeTests");
    }

    private static void example(String page, Path program) throws IOException, InterruptedException {
        Path folder = Files.createTempDirectory("readme");
        Path example = folder.resolve("Example.java");
        Path printed = folder.resolve("printed");
        try {
            Files.writeString(example, block(page, "java"));
            JavaCompiler compiler = ToolProvider.getSystemJavaCompiler();
            int compiled = compiler.run(null, null, null, "-encoding", "UTF-8", "-d", folder.toString(),
                    program.toString(), example.toString());
            Check.same("the example: the compiler", compiled, 0);
            Path java = Path.of(System.getProperty("java.home"), "bin", "java");
            Process run = new ProcessBuilder(java.toString(), "-cp", folder.toString(), "Example")
                    .redirectErrorStream(true).redirectOutput(printed.toFile()).start();
            Check.same("the example: its exit code", run.waitFor(), 0);
            List<String> got = Files.readAllLines(printed, StandardCharsets.UTF_8);
            List<String> due = block(page, "text").lines().toList();
            Check.holds("the example printed " + got + ", the page shows " + due + ": that", got.equals(due));
        } finally {
            remove(folder.toFile());
        }
    }

    /** What stands in the page's only block of a kind. */
    private static String block(String page, String kind) {
        Matcher blocks = Pattern.compile("(?s)```" + kind + "\n(.*?)```").matcher(page);
        Check.holds("a block of " + kind, blocks.find());
        String text = blocks.group(1);
        Check.holds("one block of " + kind, !blocks.find());
        return text;
    }

    private static void remove(File file) {
        File[] inside = file.listFiles();
        if (inside != null) {
            for (File each : inside) {
                remove(each);
            }
        }
        file.delete();
    }

    private static void calls(String page) {
        List<String> shown = new ArrayList<>();
        Matcher rows = Pattern.compile("(?m)^- `(\\w+ \\w+\\([^`]*\\))`").matcher(page);
        while (rows.find()) {
            shown.add(Face.told(rows.group(1)));
        }
        Set<String> due = new TreeSet<>();
        for (String call : Face.ofTheClass()) {
            due.add(Face.withoutExceptions(call));
        }
        Check.same("each call is shown once", shown.size(), due.size());
        Check.holds("the page shows " + shown + ", the class has " + due + ": that", due.equals(new TreeSet<>(shown)));
        Check.holds("the constructor is shown", page.contains("\n- `PommelTows()`"));
    }
}
