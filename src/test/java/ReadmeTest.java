import java.io.File;
import java.net.URL;
import java.net.URLClassLoader;
import java.nio.file.Files;
import java.nio.file.Path;
import java.util.ArrayList;
import java.util.List;
import java.util.regex.Matcher;
import java.util.regex.Pattern;
import javax.tools.ToolProvider;

/** Makes the calls of README.md's Java examples, each with the answer that the comment behind it begins with. */
public final class ReadmeTest {
    private static final Pattern BLOCK = Pattern.compile("```java\n(.*?)```", Pattern.DOTALL);
    private static final Pattern ANSWERED = Pattern.compile("(works\\.\\w+\\(.*\\)); +// (-?\\d+|true|false)(:.*)?");

    private ReadmeTest() {
    }

    public static void main(String[] args) throws Exception {
        Path folder = Files.createTempDirectory("readme");
        Path file = folder.resolve("ReadmeExamples.java");
        Files.writeString(file, asClass(Files.readString(Path.of("README.md"))));
        String classes = System.getProperty("java.class.path");
        int refused = ToolProvider.getSystemJavaCompiler().run(null, null, null,
                "-cp", classes, "-d", folder.toString(), file.toString());
        if (refused != 0) {
            System.out.println("the examples of README.md do not compile");
            System.exit(1);
        }
        // All classes come from one loader, so that the examples may see the tests' own ones.
        List<URL> places = new ArrayList<>();
        places.add(folder.toUri().toURL());
        for (String each : classes.split(File.pathSeparator)) {
            places.add(new File(each).toURI().toURL());
        }
        try (URLClassLoader loader = new URLClassLoader(places.toArray(new URL[0]), ClassLoader.getPlatformClassLoader())) {
            loader.loadClass("ReadmeExamples").getMethod("main", String[].class).invoke(null, (Object) new String[0]);
        } finally {
            delete(folder);
        }
    }

    /** The examples as one class: blocks that declare methods stand in it, the other ones in its main. */
    private static String asClass(String page) {
        StringBuilder methods = new StringBuilder();
        StringBuilder calls = new StringBuilder();
        Matcher blocks = BLOCK.matcher(page);
        while (blocks.find()) {
            String block = blocks.group(1);
            if (block.startsWith("static ")) {
                methods.append(block);
            } else {
                calls.append(withAnswers(block));
            }
        }
        return "public final class ReadmeExamples {\n" + methods
                + "public static void main(String[] args) {\nDue due = new Due();\ndue.promise(\"README.md\");\n"
                + calls + "due.close();\n}\n}\n";
    }

    private static String withAnswers(String block) {
        StringBuilder out = new StringBuilder();
        for (String line : block.split("\n")) {
            Matcher call = ANSWERED.matcher(line);
            if (call.matches()) {
                out.append("due.is(\"").append(call.group(1)).append("\", ").append(call.group(1)).append(", ")
                        .append(call.group(2)).append(");\n");
            } else if (line.contains("//")) {
                throw new IllegalStateException("no answer can be read off this line of README.md: " + line);
            } else {
                out.append(line).append('\n');
            }
        }
        return out.toString();
    }

    private static void delete(Path folder) throws Exception {
        for (File each : folder.toFile().listFiles()) {
            Files.delete(each.toPath());
        }
        Files.delete(folder);
    }
}
