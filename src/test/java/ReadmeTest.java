import java.io.IOException;
import java.net.URL;
import java.net.URLClassLoader;
import java.nio.file.Files;
import java.nio.file.Path;
import java.util.List;
import java.util.regex.Matcher;
import java.util.regex.Pattern;
import javax.tools.ToolProvider;

/** The examples of README.md compile, and each answers what its comment begins with. */
public final class ReadmeTest {
    private static final Pattern BLOCK = Pattern.compile("```java\n(.*?)```", Pattern.DOTALL);
    private static final Pattern ANSWER = Pattern.compile("\\w+ (\\w+) = (.*); // (-?\\d+|true|false)\\b.*");

    private ReadmeTest() {
    }

    /** A class of the examples: for each with an answer the call, what it answered, what is due. */
    private static String source(String readme) {
        StringBuilder members = new StringBuilder();
        StringBuilder calls = new StringBuilder();
        Matcher blocks = BLOCK.matcher(readme);
        while (blocks.find()) {
            String block = blocks.group(1);
            if (block.startsWith("/**")) {
                members.append(block);
                continue;
            }
            for (String line : block.split("\n")) {
                calls.append(line).append("\n");
                Matcher answer = ANSWER.matcher(line);
                if (answer.matches()) {
                    calls.append("told.add(\"").append(answer.group(2).replace("\"", "\\\"")).append("\");\n");
                    calls.append("told.add(\"\" + ").append(answer.group(1)).append(");\n");
                    calls.append("told.add(\"").append(answer.group(3)).append("\");\n");
                }
            }
        }
        return "public final class Examples {\n" + members + "public static java.util.List<String> told() {\n"
                + "java.util.List<String> told = new java.util.ArrayList<>();\n" + calls + "return told;\n}\n}\n";
    }

    /** The class of the examples; null: they do not compile. */
    private static Class<?> examples() throws IOException, ReflectiveOperationException {
        Path made = Files.createTempDirectory(Path.of("build"), "readme");
        Path source = made.resolve("Examples.java");
        Files.writeString(source, source(Files.readString(Path.of("README.md"))));
        int failed = ToolProvider.getSystemJavaCompiler().run(null, null, null, "-cp",
                System.getProperty("java.class.path"), "-d", made.toString(), source.toString());
        Class<?> examples = null;
        if (failed == 0) {
            try (URLClassLoader loader = new URLClassLoader(new URL[] {made.toUri().toURL()})) {
                examples = loader.loadClass("Examples");
            }
        }
        Files.delete(source);
        Files.deleteIfExists(made.resolve("Examples.class"));
        Files.delete(made);
        return examples;
    }

    public static void main(String[] args) throws IOException, ReflectiveOperationException {
        Check check = new Check("ReadmeTest");
        Class<?> examples = examples();
        check.due("the examples compile", examples != null, true);
        if (examples != null) {
            List<?> told = (List<?>) examples.getMethod("told").invoke(null);
            for (int i = 0; i < told.size(); i += 3) {
                check.due(told.get(i) + ", " + told.get(i + 1) + ", is " + told.get(i + 2),
                        told.get(i + 1).equals(told.get(i + 2)), true);
            }
        }
        check.close();
    }
}
