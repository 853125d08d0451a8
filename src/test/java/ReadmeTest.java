import java.io.IOException;
import java.net.URL;
import java.net.URLClassLoader;
import java.nio.file.Files;
import java.nio.file.Path;
import java.util.List;
import java.util.regex.Matcher;
import java.util.regex.Pattern;

/** What README.md says of the calls in its blocks: they compile as they stand there, and answer what stands behind them. */
public final class ReadmeTest extends Probe {
    private static final Pattern CALL = Pattern.compile("hall\\.(.*); +// (-?\\d+)(: .*)?");
    private static final String MADE = "PreCommitHall hall = new PreCommitHall();";

    private static String calls(List<String> lines) {
        StringBuilder text = new StringBuilder();
        boolean within = false;
        for (String line : lines) {
            if (line.startsWith("```")) {
                within = line.equals("```java");
                text.append(within ? "{\n" : "}\n");
            } else if (within) {
                text.append(statement(line));
            }
        }
        return text.toString();
    }

    private static String statement(String line) {
        Matcher call = CALL.matcher(line);
        if (call.matches()) {
            return "got.add(hall." + call.group(1) + "); due.add(" + call.group(2) + ");\n";
        }
        if (!line.equals(MADE)) {
            fail("README.md: neither a new hall nor a call with its answer: " + line);
        }
        return line + "\n";
    }

    private static void compileAndRun(String calls)
            throws IOException, InterruptedException, ReflectiveOperationException {
        Path folder = Files.createTempDirectory("readme");
        Path source = folder.resolve("Blocks.java");
        Files.writeString(source, "import java.util.ArrayList;\npublic class Blocks {\n"
            + "public static final ArrayList<Integer> got = new ArrayList<>(), due = new ArrayList<>();\n"
            + "public static void run() {\n" + calls + "}\n}\n");
        String here = System.getProperty("java.class.path");
        due(new ProcessBuilder("javac", "-cp", here, "-d", folder.toString(), source.toString()).inheritIO().start().waitFor(), 0);
        try (URLClassLoader loader = new URLClassLoader(new URL[] {folder.toUri().toURL()})) {
            Class<?> blocks = loader.loadClass("Blocks");
            blocks.getMethod("run").invoke(null);
            compare((List<?>) blocks.getField("got").get(null), (List<?>) blocks.getField("due").get(null));
        }
        for (String made : new String[] {"Blocks.class", "Blocks.java", ""}) {
            Files.delete(folder.resolve(made));
        }
    }

    private static void compare(List<?> got, List<?> due) {
        for (int i = 0; i < due.size(); i++) {
            fresh("README.md, call " + (i + 1));
            same(got.get(i).toString(), due.get(i).toString());
        }
        if (due.size() < 30) {
            fail("README.md has few calls: " + due.size());
        }
    }

    public static void main(String[] args) throws IOException, InterruptedException, ReflectiveOperationException {
        compileAndRun(calls(Files.readAllLines(Path.of("README.md"))));
        end();
    }
}
