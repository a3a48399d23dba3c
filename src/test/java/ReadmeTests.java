import java.io.IOException;
import java.net.URL;
import java.net.URLClassLoader;
import java.nio.file.Files;
import java.nio.file.Path;
import java.util.ArrayList;
import java.util.List;
import java.util.TreeSet;
import java.util.regex.Matcher;
import java.util.regex.Pattern;
import javax.tools.ToolProvider;

/**
 * The examples of README.md, compiled and run as they stand there: a call behind which a number stands must
 * answer that. Also that the files which README.md names are there, and all tests are named.
 */
public final class ReadmeTests {
    private static final Path README = Path.of("README.md");
    private static final Path MADE = Path.of("build/ReadmeTests/made");
    private static final Pattern EXAMPLE = Pattern.compile("```java\n(.*?)```", Pattern.DOTALL);
    private static final Pattern ANSWERED = Pattern.compile("(?:int (\\w+) = )?(lamps\\..*\\));\\s*// (-?\\d+): .*");

    private static int wrong = 0;
    private static int answers = 0;

    public static void main(String[] args) throws Exception {
        String readme = Files.readString(README);
        List<String> examples = new ArrayList<>();
        for (Matcher found = EXAMPLE.matcher(readme); found.find(); ) {
            examples.add(found.group(1));
        }
        must(examples.size() == 2, "README.md has " + examples.size() + " examples");
        for (int k = 0; k < examples.size(); k++) {
            run("Example" + k, examples.get(k));
        }
        must(answers >= 30, "README.md tells only " + answers + " answers");
        theFiles(readme);
        System.out.println(wrong == 0 ? "README.md is right" : "README.md is wrong " + wrong + " times");
        if (wrong != 0) {
            System.exit(1);
        }
    }

    private static void must(boolean is, String what) {
        if (!is) {
            wrong++;
            System.out.println(what);
        }
    }

    /** Called by the compiled examples. */
    public static void due(String line, int got, int want) {
        answers++;
        must(got == want, "answered is " + got + " by: " + line);
    }

    private static void run(String name, String example) throws Exception {
        StringBuilder source = new StringBuilder("public class " + name + " {\n    public static void run() {\n");
        for (String line : example.split("\n")) {
            Matcher found = ANSWERED.matcher(line);
            if (!found.matches()) {
                must(!line.contains("//"), "no answer is told by: " + line);
                source.append(line).append('\n');
                continue;
            }
            String call = found.group(2);
            if (found.group(1) != null) {
                source.append("int ").append(found.group(1)).append(" = ").append(call).append(";\n");
                call = found.group(1);
            }
            source.append("ReadmeTests.due(\"").append(line.replace("\"", "'")).append("\", ")
                    .append(call).append(", ").append(found.group(3)).append(");\n");
        }
        source.append("    }\n}\n");
        Files.createDirectories(MADE);
        Path file = MADE.resolve(name + ".java");
        Files.writeString(file, source);
        int bad = ToolProvider.getSystemJavaCompiler().run(null, null, null,
                "-d", MADE.toString(), "-cp", System.getProperty("java.class.path"), file.toString());
        must(bad == 0, name + " isn't right Java");
        if (bad == 0) {
            try (URLClassLoader loader = new URLClassLoader(new URL[] {MADE.toUri().toURL()})) {
                loader.loadClass(name).getMethod("run").invoke(null);
            }
        }
    }

    private static void theFiles(String readme) throws IOException {
        for (Matcher found = Pattern.compile("`((?:src|\\.\\./shared|\\.ci)/[\\w./]+)`").matcher(readme); found.find(); ) {
            must(Files.exists(Path.of(found.group(1))), "not there is " + found.group(1));
        }
        try (var files = Files.list(Path.of("src/test/java"))) {
            for (Path file : new TreeSet<>(files.toList())) {
                String name = file.getFileName().toString();
                if (name.endsWith("Tests.java")) {
                    must(readme.contains("`src/test/java/" + name + "`"), "README.md doesn't name " + name);
                    must(Files.readString(Path.of(".ci/run")).contains(name), ".ci/run doesn't run " + name);
                }
            }
        }
    }
}
