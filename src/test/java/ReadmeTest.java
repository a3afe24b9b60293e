import java.io.IOException;
import java.lang.reflect.Method;
import java.lang.reflect.Modifier;
import java.net.URL;
import java.net.URLClassLoader;
import java.nio.file.Files;
import java.nio.file.Path;
import java.util.ArrayList;
import java.util.Comparator;
import java.util.List;
import java.util.concurrent.Callable;
import java.util.regex.Matcher;
import java.util.regex.Pattern;
import java.util.stream.Stream;
import javax.tools.JavaCompiler;
import javax.tools.ToolProvider;

/** What README.md shows: its Java is compiled, and each call gives the answer told behind it. */
public final class ReadmeTest {
    private static final Path README = Path.of("README.md");
    private static final String MADE = "ReadmeShown";
    private static final Pattern NEW_OBJECT = Pattern.compile("RingPipeline \\w+ = new RingPipeline\\(-?\\d+\\);");
    /** A type and a name, if the answer is kept; the call; the answer; words that say more of it. */
    private static final Pattern CALL =
            Pattern.compile("(?:(\\w+ (\\w+)) = )?(\\w+\\.\\w+\\(.*\\)); +// (throws \\w+|[-\\w.]+)(?:: .*)?");

    private static int made;

    public static void main(String[] args) throws Exception {
        List<String> lines = Files.readAllLines(README);
        List<List<String>> blocks = javaBlocks(lines);
        Due.due("README.md shows Java", false, blocks::isEmpty);
        everyMethodIsShown(blocks);
        everyTestIsNamed(lines);
        int calls = runShown(source(blocks));
        Due.due("calls that were made", calls, () -> made);
        Due.finish();
    }

    /** The compiled Java of README.md calls this for each of its lines. */
    public static void shown(String line, String want, Callable<?> call) {
        made++;
        Object got = Due.answer(call);
        String text = got instanceof Class<?> thrown ? "throws " + thrown.getSimpleName() : String.valueOf(got);
        Due.due("README.md: " + line, want, () -> text);
    }

    private static List<List<String>> javaBlocks(List<String> lines) {
        List<List<String>> blocks = new ArrayList<>();
        boolean inside = false;
        for (String line : lines) {
            if (line.startsWith("```")) {
                inside = line.equals("```java");
                if (inside) {
                    blocks.add(new ArrayList<>());
                }
            } else if (inside && !line.isBlank()) {
                blocks.get(blocks.size() - 1).add(line);
            }
        }
        return blocks;
    }

    private static void everyMethodIsShown(List<List<String>> blocks) {
        String all = blocks.toString();
        for (Method method : RingPipeline.class.getDeclaredMethods()) {
            if (Modifier.isPublic(method.getModifiers())) {
                String call = "." + method.getName() + "(";
                Due.due("README.md shows " + method.getName(), true, () -> all.contains(call));
            }
        }
    }

    private static void everyTestIsNamed(List<String> lines) throws IOException {
        String all = String.join("\n", lines);
        try (Stream<Path> files = Files.list(Path.of("src/test/java"))) {
            for (Path file : files.sorted().toList()) {
                String name = file.getFileName().toString().replace(".java", "");
                if (name.endsWith("Test")) {
                    Due.due("README.md names " + name, true, () -> all.contains("`" + name + "`"));
                }
            }
        }
    }

    /** A class with a method for each block, so that each has names of its own. */
    private static List<String> source(List<List<String>> blocks) {
        List<String> source = new ArrayList<>();
        source.add("public final class " + MADE + " {");
        for (int i = 0; i < blocks.size(); i++) {
            source.add("public static void block" + i + "() {");
            for (String line : blocks.get(i)) {
                source.add(statement(line));
            }
            source.add("}");
        }
        source.add("}");
        return source;
    }

    private static String statement(String line) {
        if (NEW_OBJECT.matcher(line).matches()) {
            return line;
        }
        Matcher parts = CALL.matcher(line);
        boolean known = parts.matches();
        Due.due("README.md, a call with its answer: " + line, true, () -> known);
        if (!known) {
            return "";
        }
        String kept = parts.group(1) == null ? "" : parts.group(1) + " = " + parts.group(3) + "; ";
        String asked = parts.group(1) == null ? parts.group(3) : parts.group(2);
        return kept + "ReadmeTest.shown(\"" + line.replace("\\", "\\\\").replace("\"", "\\\"") + "\", \""
                + parts.group(4) + "\", () -> " + asked + ");";
    }

    /** How many calls the source has; they have been made then. */
    private static int runShown(List<String> source) throws Exception {
        Path directory = Files.createTempDirectory("readme");
        try {
            Path file = Files.write(directory.resolve(MADE + ".java"), source);
            boolean compiled = compiles(directory, file);
            Due.due("README.md compiles", true, () -> compiled);
            if (compiled) {
                callBlocks(directory);
            }
        } finally {
            remove(directory);
        }
        return (int) source.stream().filter(line -> line.contains("ReadmeTest.shown(")).count();
    }

    private static boolean compiles(Path directory, Path file) {
        JavaCompiler compiler = ToolProvider.getSystemJavaCompiler();
        return compiler != null && compiler.run(null, null, null, "-cp", System.getProperty("java.class.path"),
                "-d", directory.toString(), file.toString()) == 0;
    }

    private static void callBlocks(Path directory) throws Exception {
        URL[] places = {directory.toUri().toURL()};
        try (URLClassLoader loader = new URLClassLoader(places, ReadmeTest.class.getClassLoader())) {
            for (Method block : loader.loadClass(MADE).getDeclaredMethods()) {
                if (block.getName().startsWith("block")) {
                    block.invoke(null);
                }
            }
        }
    }

    private static void remove(Path directory) throws IOException {
        try (Stream<Path> files = Files.walk(directory)) {
            for (Path file : files.sorted(Comparator.reverseOrder()).toList()) {
                Files.delete(file);
            }
        }
    }
}
