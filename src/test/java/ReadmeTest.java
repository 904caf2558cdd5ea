import java.io.IOException;
import java.net.URL;
import java.net.URLClassLoader;
import java.nio.charset.StandardCharsets;
import java.nio.file.Files;
import java.nio.file.Path;
import java.util.ArrayList;
import java.util.List;
import java.util.regex.Matcher;
import java.util.regex.Pattern;
import javax.tools.ToolProvider;

/** What README.md says of the class: its example, its constant, its methods and what they throw. */
public final class ReadmeTest {
    private static final Pattern METHOD = Pattern.compile(
            "^    public (\\w+ \\w+\\([^)]*\\))\\s*(?:throws ([^{]*?))?\\s*\\{$", Pattern.MULTILINE);
    private static final Pattern EXAMPLE = Pattern.compile("(?s)```java\n(.*?)```");
    private static final Pattern THROWN = Pattern.compile("^  - `(\\w+)`: \\S", Pattern.MULTILINE);
    private static final int METHODS = 26;
    private static final long LEFT_TO_THE_SELLER = 99280;
    private static final String EXAMPLE_HEAD =
            "public final class ReadmeExample { public static long left() {\n";

    private ReadmeTest() {
    }

    public static void main(String[] args) throws Exception {
        String source = args.length > 0 ? args[0] : "src/main/java/FactorHouse.java";
        String readme = read("README.md");
        methods(read(source), readme);
        constantAndConstructor(readme);
        example(readme);
        Check.end();
    }

    private static String read(String file) throws IOException {
        return Files.readString(Path.of(file), StandardCharsets.UTF_8);
    }

    private static void methods(String source, String readme) {
        List<String> told = new ArrayList<>();
        Matcher method = METHOD.matcher(source);
        while (method.find()) {
            String signature = method.group(1).replaceAll("\\s+", " ");
            String thrown = method.group(2) == null ? "" : method.group(2).replaceAll("\\s+", " ");
            told.add(signature);
            Check.due("README.md says that " + signature + " throws",
                    thrownBy(readme, signature), thrown);
        }
        Check.due("methods of the class", told.size(), METHODS);
        Matcher row = Pattern.compile("^- `(\\w+ \\w+\\([^)]*\\))`", Pattern.MULTILINE)
                .matcher(readme);
        List<String> rows = new ArrayList<>();
        while (row.find()) {
            rows.add(row.group(1));
        }
        Check.due("the methods in README.md", String.join("\n", rows), String.join("\n", told));
    }

    /** The exceptions that stand below a method's signature, one behind the other. */
    private static String thrownBy(String readme, String signature) {
        int start = readme.indexOf("\n- `" + signature + "` ");
        if (start < 0) {
            return "it does not tell of it";
        }
        Matcher end = Pattern.compile("\n(-|#|\n)").matcher(readme);
        int stop = end.find(start + 1) ? end.start() + 1 : readme.length();
        Matcher thrown = THROWN.matcher(readme.substring(start, stop));
        List<String> names = new ArrayList<>();
        while (thrown.find()) {
            names.add(thrown.group(1));
        }
        return String.join(", ", names);
    }

    private static void constantAndConstructor(String readme) {
        Check.due("README.md tells the constant",
                readme.contains("\n- `FactorHouse.NONE` is " + FactorHouse.NONE + ":"), true);
        Check.due("README.md tells the constructor",
                readme.contains("\n- `FactorHouse()` "), true);
        Check.due("README.md tells how to run the tests", readme.contains("\n.ci/run\n"), true);
    }

    /** Compiles the example of the page as it stands there, and calls it. */
    private static void example(String readme) throws Exception {
        Matcher code = EXAMPLE.matcher(readme);
        if (!code.find()) {
            Check.report("README.md has no example");
            return;
        }
        Path folder = Files.createTempDirectory("readme");
        Path file = folder.resolve("ReadmeExample.java");
        Files.writeString(file, EXAMPLE_HEAD + code.group(1) + "return left; } }\n",
                StandardCharsets.UTF_8);
        int exit = ToolProvider.getSystemJavaCompiler().run(null, null, null, "-cp",
                System.getProperty("java.class.path"), "-d", folder.toString(), file.toString());
        Check.due("javac of the example in README.md ends with", exit, 0);
        if (exit == 0) {
            Check.due("the example in README.md", leftBy(folder), LEFT_TO_THE_SELLER);
            Check.due("README.md tells " + LEFT_TO_THE_SELLER + " behind the example's last call",
                    code.group(1).contains("// " + LEFT_TO_THE_SELLER + ":"), true);
        }
        remove(folder);
    }

    private static long leftBy(Path folder) throws Exception {
        try (URLClassLoader loader = new URLClassLoader(new URL[] {folder.toUri().toURL()})) {
            return (long) loader.loadClass("ReadmeExample").getMethod("left").invoke(null);
        }
    }

    private static void remove(Path folder) throws IOException {
        for (String name : new String[] {"ReadmeExample.java", "ReadmeExample.class"}) {
            Files.deleteIfExists(folder.resolve(name));
        }
        Files.delete(folder);
    }
}
