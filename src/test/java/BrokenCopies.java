import java.io.ByteArrayOutputStream;
import java.io.IOException;
import java.io.OutputStream;
import java.io.PrintStream;
import java.net.URI;
import java.nio.file.Files;
import java.nio.file.Path;
import java.util.ArrayList;
import java.util.HashMap;
import java.util.HashSet;
import java.util.List;
import java.util.Map;
import java.util.Set;
import java.util.TreeMap;
import java.util.concurrent.ConcurrentHashMap;
import java.util.concurrent.ExecutorService;
import java.util.concurrent.Executors;
import java.util.concurrent.TimeUnit;
import java.util.regex.Matcher;
import java.util.regex.Pattern;
import javax.tools.FileObject;
import javax.tools.ForwardingJavaFileManager;
import javax.tools.JavaCompiler;
import javax.tools.JavaFileManager;
import javax.tools.JavaFileObject;
import javax.tools.SimpleJavaFileObject;
import javax.tools.ToolProvider;

/**
 * Tests the tests, by hand and not in .ci/run: makes copies of the class with one small change each, runs
 * the tests of the sentences on each copy, and tells which copies no test told apart (each of these is to
 * be judged by reading) and which sentences no copy broke.
 */
public final class BrokenCopies {
    private static final Path SOURCE = Path.of("src/main/java/LampRanks.java");
    private static final int SECONDS = 20;

    /** What is looked for, and what is put there instead. */
    private static final String[][] CHANGES = {
        {"(?<![<>=!])<(?![<=>])", "<=", ">="}, {"(?<![<>=!-])>(?![>=])", ">=", "<="},
        {"<=", "<", ">"}, {"(?<!>)>=", ">", "<"}, {"==", "!="}, {"!=", "=="}, {"&&", "||"}, {"\\|\\|", "&&"},
        {"(?<!\\+)\\+(?![+=])", "-"}, {"(?<!-)-(?![-=>])", "+"}, {"\\+\\+", "--"}, {"--", "++"},
        {"\\+=", "-=", "="}, {"\\|=", "=", "&="}, {"\\^=", "|=", "&="}, {"<<", ">>"}, {">>", "<<"},
        {"(?<!&)&(?![&=])", "|"}, {"(?<!\\|)\\|(?![|=])", "&"}, {"!(?!=)", ""},
        {"\\btrue\\b", "false"}, {"\\bfalse\\b", "true"},
        {"\\bINVALID_ARGUMENT\\b", "NOT_POSSIBLE"}, {"\\bNOT_POSSIBLE\\b", "LIMIT_REACHED"},
        {"\\bLIMIT_REACHED\\b", "NOT_FOUND"}, {"\\bNOT_FOUND\\b", "INVALID_ARGUMENT"},
        {"\\bmax\\b", "min"}, {"\\bif \\((?=.*\\{$)", "if (false && ", "if (true || "},
    };

    private static final PrintStream out = System.out;
    private static final List<String> untold = new ArrayList<>();
    private static final Map<String, Integer> brokenBy = new ConcurrentHashMap<>();
    private static int compiled = 0;

    public static void main(String[] args) throws Exception {
        System.setOut(new PrintStream(OutputStream.nullOutputStream()));
        List<String> lines = Files.readAllLines(SOURCE);
        Set<String> all = new HashSet<>();
        brokenOf(classesOf(String.join("\n", lines)), all);
        ExecutorService workers = Executors.newFixedThreadPool(Runtime.getRuntime().availableProcessors());
        for (int k = 0; k < lines.size(); k++) {
            for (String changed : changesOf(lines.get(k))) {
                int place = k;
                workers.execute(() -> tryCopy(lines, place, changed));
            }
        }
        workers.shutdown();
        workers.awaitTermination(1, TimeUnit.HOURS);
        report(all);
        System.exit(0);
    }

    private static void report(Set<String> all) {
        untold.forEach(out::println);
        out.println(compiled + " copies, " + untold.size() + " of them told apart by no test");
        for (String sentence : all) {
            if (!brokenBy.containsKey(sentence)) {
                out.println("broken by no copy: " + sentence);
            }
        }
        for (Map.Entry<String, Integer> it : new TreeMap<>(brokenBy).entrySet()) {
            out.println(it.getValue() + " copies break: " + it.getKey());
        }
    }

    private static List<String> changesOf(String line) {
        List<String> changed = new ArrayList<>();
        String code = line.strip();
        if (code.startsWith("*") || code.startsWith("/") || code.startsWith("private static final class")) {
            return changed;
        }
        for (String[] change : CHANGES) {
            Matcher found = Pattern.compile(change[0]).matcher(line);
            while (found.find()) {
                for (int k = 1; k < change.length; k++) {
                    changed.add(line.substring(0, found.start()) + change[k] + line.substring(found.end()));
                }
            }
        }
        Matcher number = Pattern.compile("(?<![\\w'])\\d+(?!\\w)").matcher(line);
        while (number.find()) {
            for (int step : new int[] {-1, 1}) {
                changed.add(line.substring(0, number.start()) + (Integer.parseInt(number.group()) + step)
                        + line.substring(number.end()));
            }
        }
        if (code.endsWith(";") && !code.startsWith("private") && !code.startsWith("public")) {
            changed.add("");
        }
        return changed;
    }

    private static void tryCopy(List<String> lines, int place, String changed) {
        List<String> copy = new ArrayList<>(lines);
        copy.set(place, changed);
        Map<String, byte[]> classes = classesOf(String.join("\n", copy));
        if (classes.isEmpty()) {
            return;
        }
        Set<String> broken = brokenWithin(classes);
        for (String sentence : broken) {
            brokenBy.merge(sentence, 1, Integer::sum);
        }
        synchronized (untold) {
            compiled++;
            if (broken.isEmpty()) {
                untold.add((place + 1) + ": " + lines.get(place).strip() + "\n        " + changed.strip());
            }
        }
    }

    /** The sentences that the classes break; a run without an end breaks one of no name. */
    private static Set<String> brokenWithin(Map<String, byte[]> classes) {
        Set<String> broken = ConcurrentHashMap.newKeySet();
        Thread run = new Thread(() -> broken.addAll(brokenOf(classes, new HashSet<>())));
        run.setDaemon(true);
        run.start();
        try {
            run.join(SECONDS * 1000L);
        } catch (InterruptedException stopped) {
            Thread.currentThread().interrupt();
        }
        if (run.isAlive()) {
            broken.add("(no end)");
        }
        return broken;
    }

    @SuppressWarnings("unchecked")
    private static Set<String> brokenOf(Map<String, byte[]> classes, Set<String> all) {
        try {
            ClassLoader loader = new Loader(classes);
            var run = loader.loadClass("SentenceTests").getDeclaredMethod("all");
            run.setAccessible(true);
            run.invoke(null);
            Class<?> sentences = loader.loadClass("Sentences");
            var told = sentences.getDeclaredMethod("told");
            told.setAccessible(true);
            all.addAll((Set<String>) told.invoke(null));
            var broken = sentences.getDeclaredMethod("broken");
            broken.setAccessible(true);
            return (Set<String>) broken.invoke(null);
        } catch (ReflectiveOperationException | LinkageError thrown) {
            return Set.of("(" + thrown + ")");
        }
    }

    /** The compiled classes by name, or none if the source isn't right. */
    private static Map<String, byte[]> classesOf(String source) {
        Map<String, ByteArrayOutputStream> written = new HashMap<>();
        JavaCompiler compiler = ToolProvider.getSystemJavaCompiler();
        JavaFileManager files = new ForwardingJavaFileManager<JavaFileManager>(
                compiler.getStandardFileManager(problem -> { }, null, null)) {
            @Override
            public JavaFileObject getJavaFileForOutput(
                    Location at, String name, JavaFileObject.Kind kind, FileObject sibling) {
                return new SimpleJavaFileObject(URI.create("memory:///" + name), kind) {
                    @Override
                    public OutputStream openOutputStream() {
                        ByteArrayOutputStream bytes = new ByteArrayOutputStream();
                        written.put(name, bytes);
                        return bytes;
                    }
                };
            }
        };
        JavaFileObject file = new SimpleJavaFileObject(
                URI.create("memory:///LampRanks.java"), JavaFileObject.Kind.SOURCE) {
            @Override
            public CharSequence getCharContent(boolean lenient) {
                return source;
            }
        };
        boolean right = compiler.getTask(null, files, problem -> { }, null, null, List.of(file)).call();
        Map<String, byte[]> classes = new HashMap<>();
        if (right) {
            written.forEach((name, bytes) -> classes.put(name, bytes.toByteArray()));
        }
        return classes;
    }

    /** Takes LampRanks from the copy, and the tests anew, so that no run knows of another. */
    private static final class Loader extends ClassLoader {
        private final Map<String, byte[]> classes;

        Loader(Map<String, byte[]> classes) {
            this.classes = classes;
        }

        @Override
        protected Class<?> loadClass(String name, boolean resolve) throws ClassNotFoundException {
            synchronized (getClassLoadingLock(name)) {
                Class<?> loaded = findLoadedClass(name);
                if (loaded != null) {
                    return loaded;
                }
                boolean ours = name.startsWith("LampRanks") || name.matches("\\w*Sentence\\w*");
                return ours ? define(name) : super.loadClass(name, resolve);
            }
        }

        private Class<?> define(String name) throws ClassNotFoundException {
            byte[] bytes = classes.get(name);
            if (bytes == null) {
                try (var in = getResourceAsStream(name.replace('.', '/') + ".class")) {
                    bytes = in.readAllBytes();
                } catch (IOException thrown) {
                    throw new ClassNotFoundException(name, thrown);
                }
            }
            return defineClass(name, bytes, 0, bytes.length);
        }
    }
}
