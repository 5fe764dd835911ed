import java.io.IOException;
import java.net.URL;
import java.net.URLClassLoader;
import java.nio.file.Files;
import java.nio.file.Path;
import java.util.ArrayList;
import java.util.List;
import java.util.regex.Matcher;
import java.util.regex.Pattern;
import javax.tools.JavaCompiler;
import javax.tools.ToolProvider;

/** The examples of README.md: they compile, and each call answers what stands behind it. Takes the path of the class's source. */
public final class ReadmeTest {
    private static final Pattern CALL = Pattern.compile("x\\.(\\w+)\\((.*)\\);\\s+// (-?\\d+)\\b.*");
    private static final String NAME = "ReadmeExamples";

    private static int answers = 0;

    public static void main(String[] args) throws Exception {
        Path readme = Path.of(args[0]).toAbsolutePath().getParent().resolve("../../../README.md").normalize();
        List<List<String>> examples = examples(Files.readAllLines(readme));
        Path out = Files.createTempDirectory("readme");
        int wrong;
        try {
            wrong = run(out, source(examples));
        } finally {
            remove(out);
        }
        System.out.println(examples.size() + " examples, " + answers + " answers looked at, " + wrong + " not as due");
        if (wrong != 0 || answers == 0) {
            System.exit(1);
        }
    }

    private static List<List<String>> examples(List<String> lines) {
        List<List<String>> examples = new ArrayList<>();
        List<String> open = null;
        for (String line : lines) {
            if (line.equals("```java")) {
                open = new ArrayList<>();
                examples.add(open);
            } else if (line.equals("```")) {
                open = null;
            } else if (open != null) {
                open.add(line);
            }
        }
        return examples;
    }

    /** A class that does what the examples do; each call has its answer behind it, but for those within a loop. */
    private static String source(List<List<String>> examples) {
        StringBuilder s = new StringBuilder("public class " + NAME + " {\n  public static int wrong = 0;\n"
            + "  static void due(String call, long got, long want) {\n"
            + "    if (got != want) { wrong++; System.out.println(\"README.md: \" + call + \" answered \" + got + \", told is \" + want); }\n  }\n"
            + "  public static void run() {\n");
        for (List<String> example : examples) {
            s.append("    {\n");
            for (String line : example) {
                s.append("      ").append(looked(line)).append('\n');
            }
            s.append("    }\n");
        }
        return s.append("  }\n}\n").toString();
    }

    private static String looked(String line) {
        Matcher call = CALL.matcher(line);
        if (call.matches()) {
            answers++;
            String told = call.group(1) + "(" + call.group(2) + ")";
            return "due(\"" + told + "\", x." + told + ", " + call.group(3) + "L);";
        }
        if (line.startsWith("x.")) {
            throw new IllegalStateException("README.md tells no answer: " + line);
        }
        return line;
    }

    private static int run(Path out, String source) throws Exception {
        Path file = out.resolve(NAME + ".java");
        Files.writeString(file, source);
        JavaCompiler compiler = ToolProvider.getSystemJavaCompiler();
        String classes = Path.of(TwoStraws.class.getProtectionDomain().getCodeSource().getLocation().toURI()).toString();
        if (compiler.run(null, null, null, "-d", out.toString(), "-cp", classes, file.toString()) != 0) {
            throw new IllegalStateException("the examples of README.md do not compile");
        }
        try (URLClassLoader loader = new URLClassLoader(new URL[] {out.toUri().toURL()}, ReadmeTest.class.getClassLoader())) {
            Class<?> made = loader.loadClass(NAME);
            made.getMethod("run").invoke(null);
            return made.getField("wrong").getInt(null);
        }
    }

    private static void remove(Path out) throws IOException {
        try (var files = Files.list(out)) {
            for (Path file : files.toList()) {
                Files.delete(file);
            }
        }
        Files.delete(out);
    }
}
