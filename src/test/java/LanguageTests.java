import java.io.DataInputStream;
import java.io.IOException;
import java.lang.reflect.Array;
import java.lang.reflect.Constructor;
import java.lang.reflect.Field;
import java.lang.reflect.InvocationTargetException;
import java.lang.reflect.Method;
import java.lang.reflect.Modifier;
import java.nio.file.Files;
import java.nio.file.Path;
import java.util.ArrayList;
import java.util.Arrays;
import java.util.Collections;
import java.util.Comparator;
import java.util.IdentityHashMap;
import java.util.List;
import java.util.Random;
import java.util.Set;
import java.util.TreeSet;
import java.util.regex.Matcher;
import java.util.regex.Pattern;

/** The rules of LANGUAGE.md that can be looked up in the source or in the compiled class. */
public final class LanguageTests {
    private static final Path SOURCE = Path.of("src/main/java/LampRanks.java");
    private static final Path DOCUMENT = Path.of("../shared/DOC.md");

    private static final Set<String> FACE = new TreeSet<>(List.of(
            "node(int,int)", "line(int,int,int)", "mask(int,int)", "maskNode(int,int)", "threshold(int)",
            "late(int)", "lineOf(int,int)", "nodeOf(int,int)", "inputAt(int,int)", "edge(int)",
            "level(int,int)", "take()", "done()", "tick(int)", "next()", "orderAt(int)", "serviceAt(int)",
            "waitingAt(int)", "lines(int)", "count(int)", "undo()", "type(int)", "clearText()", "fault(int)",
            "play()"));

    private static final Set<String> CONSTANTS = new TreeSet<>(List.of(
            "INVALID_ARGUMENT", "NOT_POSSIBLE", "LIMIT_REACHED", "NOT_FOUND"));

    private static final List<String> RULED_OUT = List.of(
            "\\bpackage\\b", "\\bthrows?\\b", "\\btry\\b", "\\bcatch\\b", "\\bsynchronized\\b", "\\bassert\\b",
            "->", "::", "Exact\\b", "\\bSystem\\.(?!arraycopy)", "\\bnew\\s+Object\\b", "\\bThread\\b",
            "\\bRandom\\b", "\\bimport (?!java\\.util\\.(ArrayList|List|Arrays|Iterator);)",
            "(?<!import )\\bjava\\.", "\\bvar\\b", "\\bnative\\b", "\\btransient\\b",
            "\\bvolatile\\b", "\\bstatic\\s*\\{", "while\\s*\\(\\s*true", "for\\s*\\(\\s*;\\s*;", "\"\\s*\\+", "\\+\\s*\"");

    /** What the class uses of the library; rule 4 allows more. */
    private static final Set<String> LIBRARY = Set.of(
            "java/lang/Object.<init>", "java/lang/System.arraycopy", "java/lang/Integer.bitCount",
            "java/lang/Math.max");

    private static final Pattern HEAD = Pattern.compile("^( +)[\\w<>\\[\\] ]+\\(([^()]*)\\) \\{$");
    private static final String BRANCH = "(if|for|while|switch|else)\\b.*";

    private static final int MOST_OBJECTS = 400;
    private static final int MOST_CELLS = 4000;
    private static final int WILD_CALLS = 300_000;

    private static int wrong = 0;

    public static void main(String[] args) throws IOException, IllegalAccessException {
        String source = Files.readString(SOURCE);
        String code = withoutComments(source);
        theFace();
        theDocumentsFace(source, Files.readString(DOCUMENT));
        theWords(code);
        theSigns(source);
        theClasses(code);
        theMethods(code);
        theLibrary();
        theRoom(code);
        theWildCalls();
        System.out.println(wrong == 0 ? "the rules are kept" : wrong + " rules are broken");
        if (wrong != 0) {
            System.exit(1);
        }
    }

    private static void must(boolean is, String what) {
        if (!is) {
            wrong++;
            System.out.println(what);
        }
    }

    private static String withoutComments(String source) {
        return Pattern.compile("/\\*.*?\\*/", Pattern.DOTALL).matcher(source).replaceAll("").replaceAll("//.*", "");
    }

    private static void theFace() {
        Set<String> methods = new TreeSet<>();
        Set<String> others = new TreeSet<>();
        for (Method method : LampRanks.class.getDeclaredMethods()) {
            List<String> types = new ArrayList<>();
            for (Class<?> type : method.getParameterTypes()) {
                types.add(type.getName());
            }
            if (Modifier.isPrivate(method.getModifiers())) {
                others.add(method.getName());
            } else {
                must(Modifier.isPublic(method.getModifiers()) && !Modifier.isStatic(method.getModifiers())
                        && method.getReturnType() == int.class, "rule 1: " + method);
                methods.add(method.getName() + "(" + String.join(",", types) + ")");
            }
        }
        must(methods.equals(FACE), "rule 1: the methods are " + methods);
        for (Class<?> inside : LampRanks.class.getDeclaredClasses()) {
            must(Modifier.isStatic(inside.getModifiers()), "rule 1: " + inside + " isn't static");
            must(!Modifier.isPublic(inside.getModifiers()), "rule 1: " + inside + " is public");
            for (Method method : inside.getDeclaredMethods()) {
                others.add(method.getName());
            }
        }
        for (String face : FACE) {
            String name = face.substring(0, face.indexOf('('));
            must(!others.contains(name), "rule 1: another method has the name " + name);
        }
        Set<String> constants = new TreeSet<>();
        for (Field field : LampRanks.class.getDeclaredFields()) {
            if (!Modifier.isPrivate(field.getModifiers())) {
                constants.add(field.getName());
            }
            must(!Modifier.isStatic(field.getModifiers()) || Modifier.isFinal(field.getModifiers()),
                    "rule 5: " + field);
        }
        must(constants.equals(CONSTANTS), "rule 1: the fields are " + constants);
        Constructor<?>[] constructors = LampRanks.class.getDeclaredConstructors();
        must(constructors.length == 1 && Modifier.isPublic(constructors[0].getModifiers())
                && constructors[0].getParameterCount() == 0, "rule 1: the constructor");
        must(Modifier.isFinal(LampRanks.class.getModifiers()), "rule 1: the class isn't final");
    }

    /** The face stands in the source as in the document, in its order, and what is said ahead of the calls, too. */
    private static void theDocumentsFace(String source, String document) {
        Matcher block = Pattern.compile("```java\n(.*?)```", Pattern.DOTALL).matcher(document);
        must(block.find(), "the document has no face");
        int place = 0;
        int found = 0;
        for (String line : block.group(1).split("\n")) {
            String head = line.strip().replaceAll("\\);$", ") {");
            if (!head.equals("}")) {
                place = source.indexOf(head, place);
                must(place >= 0, "the document's face: not there in its order is " + head);
                place = Math.max(place, 0);
                found++;
            }
        }
        must(found == 1 + CONSTANTS.size() + 1 + FACE.size(), "the document's face has " + found + " lines");
        Matcher ahead = Pattern.compile("Ahead of the calls (.*) the interface says: (---- [a-z, ]+)\\.").matcher(document);
        int calls = 0;
        while (ahead.find()) {
            int said = source.indexOf("    // " + ahead.group(2) + "\n");
            int next = source.indexOf("// ----", said + 10);
            for (String call : ahead.group(1).split(", ")) {
                int head = source.indexOf("    public int " + call.replace("`", "") + "(");
                must(said >= 0 && said < head && (head < next || next < 0), "not said ahead of " + call + ": " + ahead.group(2));
                calls++;
            }
        }
        must(calls == FACE.size(), "the document says something ahead of " + calls + " calls");
    }

    private static void theWords(String code) {
        for (String word : RULED_OUT) {
            Matcher found = Pattern.compile(word).matcher(code);
            if (found.find()) {
                must(false, "ruled out is " + word + ": " + code.substring(found.start(), Math.min(code.length(), found.end() + 30)));
            }
        }
    }

    private static void theSigns(String source) {
        must(source.chars().allMatch(sign -> sign == '\n' || sign >= 32 && sign <= 126), "rule 4: a sign in the source");
    }

    private static void theClasses(String code) {
        Class<?>[] inside = LampRanks.class.getDeclaredClasses();
        must(inside.length + 1 <= 12, "rule 11: classes");
        for (Class<?> it : inside) {
            long fields = List.of(it.getDeclaredFields()).stream()
                    .filter(field -> !Modifier.isStatic(field.getModifiers()))
                    .count();
            must(fields <= 20, "rule 11: fields of " + it);
        }
        must(Pattern.compile("\\bclass\\b").matcher(code).results().count() == inside.length + 1, "rule 2: classes");
    }

    /** The lines of each method, from its head to the brace that stands as far in as the head. */
    private static void theMethods(String code) {
        String[] lines = code.split("\n");
        for (int k = 0; k < lines.length; k++) {
            Matcher found = HEAD.matcher(lines[k]);
            if (!found.matches() || lines[k].strip().matches(BRANCH)) {
                continue;
            }
            int end = k;
            while (end < lines.length && !lines[end].equals(found.group(1) + "}")) {
                end++;
            }
            must(end - k < 60, "rule 11: too long is" + lines[k]);
            must(found.group(2).split(",").length <= 7, "rule 11: parameters of" + lines[k]);
        }
    }

    /** Rules 4 and 6: the compiled classes call only one another and what LIBRARY names, and no lambda. */
    private static void theLibrary() throws IOException {
        List<Class<?>> classes = new ArrayList<>(List.of(LampRanks.class.getDeclaredClasses()));
        classes.add(LampRanks.class);
        for (Class<?> it : classes) {
            try (var in = new DataInputStream(it.getResourceAsStream("/" + it.getName() + ".class"))) {
                for (String called : calledBy(in)) {
                    must(called.startsWith("LampRanks") || LIBRARY.contains(called),
                            "rule 4: " + it.getName() + " uses " + called);
                }
            }
        }
    }

    /** The fields and methods that a class file names, as the class and the name. */
    private static List<String> calledBy(DataInputStream in) throws IOException {
        in.readLong();
        int size = in.readUnsignedShort();
        String[] texts = new String[size];
        int[][] pairs = new int[size][2];
        List<Integer> references = new ArrayList<>();
        List<String> called = new ArrayList<>();
        for (int k = 1; k < size; k++) {
            int kind = in.readUnsignedByte();
            switch (kind) {
                case 1 -> texts[k] = in.readUTF();
                case 3, 4 -> in.readInt();
                case 5, 6 -> {
                    in.readLong();
                    k++;
                }
                case 7, 8 -> pairs[k][0] = in.readUnsignedShort();
                case 9, 10, 11, 12 -> {
                    pairs[k][0] = in.readUnsignedShort();
                    pairs[k][1] = in.readUnsignedShort();
                    if (kind != 12) {
                        references.add(k);
                    }
                }
                default -> throw new IOException("rule 2: a constant of the kind " + kind);
            }
        }
        for (int k : references) {
            called.add(texts[pairs[pairs[k][0]][0]] + "." + texts[pairs[pairs[k][1]][0]]);
        }
        return called;
    }

    /** Rule 12: what one object holds is small, and no call makes more. */
    private static void theRoom(String code) throws IllegalAccessException {
        LampRanks x = new LampRanks();
        long[] atFirst = heldBy(x);
        must(atFirst[0] <= MOST_OBJECTS && atFirst[1] <= MOST_CELLS,
                "rule 12: one object holds " + atFirst[0] + " objects with " + atFirst[1] + " fields and elements");
        for (int call = 0; call < 64; call++) {
            x.node(call % 3, 1);
            x.line(call % 2, call % 8, call % 3 / 2);
            x.edge(call % 16);
            x.take();
            x.done();
            x.type("e0;x;d;t".charAt(call % 8));
            x.play();
            x.orderAt(call % 4);
        }
        long[] then = heldBy(x);
        must(then[0] == atFirst[0] && then[1] == atFirst[1], "rule 12: a call makes objects that stay");
        for (String method : makers(code)) {
            must(method.matches("(public )?[A-Z]\\w*\\(.*"), "rule 12: an object is made in " + method);
        }
    }

    /** The heads of the methods and constructors in which an object is made. */
    private static List<String> makers(String code) {
        List<String> makers = new ArrayList<>();
        String method = "";
        for (String line : code.split("\n")) {
            if (HEAD.matcher(line).matches() && !line.strip().matches(BRANCH)) {
                method = line.strip();
            }
            if (line.matches(".*\\bnew\\b.*")) {
                makers.add(method);
            }
        }
        return makers;
    }

    /** How many objects and arrays can be reached from this one, and how many fields and elements they have. */
    private static long[] heldBy(Object from) throws IllegalAccessException {
        Set<Object> seen = Collections.newSetFromMap(new IdentityHashMap<>());
        List<Object> toGo = new ArrayList<>(List.of(from));
        long cells = 0;
        while (!toGo.isEmpty()) {
            Object it = toGo.remove(toGo.size() - 1);
            if (!seen.add(it)) {
                continue;
            }
            if (it.getClass().isArray()) {
                cells += Array.getLength(it);
                for (int k = 0; it instanceof Object[] && k < Array.getLength(it); k++) {
                    toGo.add(Array.get(it, k));
                }
                continue;
            }
            for (Field field : it.getClass().getDeclaredFields()) {
                if (Modifier.isStatic(field.getModifiers())) {
                    continue;
                }
                cells++;
                field.setAccessible(true);
                if (!field.getType().isPrimitive()) {
                    toGo.add(field.get(it));
                }
            }
        }
        return new long[] {seen.size(), cells};
    }

    /** Rule 7: no call throws, whatever its arguments are, and however many calls were ahead of it. */
    private static void theWildCalls() throws IllegalAccessException {
        int[] arguments = {
            Integer.MIN_VALUE, -65536, -2, -1, 0, 0, 0, 1, 1, 1, 2, 3, 4, 5, 6, 7, 8, 12, 15, 16, 48, 49, 59, 99, 100,
            101, 116, 120, 126, 65536, Integer.MAX_VALUE - 1, Integer.MAX_VALUE
        };
        List<Method> calls = new ArrayList<>();
        for (Method method : LampRanks.class.getDeclaredMethods()) {
            if (Modifier.isPublic(method.getModifiers())) {
                calls.add(method);
            }
        }
        calls.sort(Comparator.comparing(Method::getName));
        Random random = new Random(7);
        LampRanks x = new LampRanks();
        for (int call = 0; call < WILD_CALLS; call++) {
            Method method = calls.get(random.nextInt(calls.size()));
            Object[] with = new Object[method.getParameterCount()];
            for (int k = 0; k < with.length; k++) {
                with[k] = arguments[random.nextInt(arguments.length)];
            }
            try {
                method.invoke(x, with);
            } catch (InvocationTargetException thrown) {
                must(false, "rule 7: " + method.getName() + Arrays.toString(with) + " threw " + thrown.getCause());
                return;
            }
        }
    }
}
