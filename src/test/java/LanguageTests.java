import java.io.IOException;
import java.lang.reflect.Constructor;
import java.lang.reflect.Field;
import java.lang.reflect.Method;
import java.lang.reflect.Modifier;
import java.nio.file.Files;
import java.nio.file.Path;
import java.util.ArrayList;
import java.util.List;
import java.util.Set;
import java.util.TreeSet;
import java.util.regex.Matcher;
import java.util.regex.Pattern;

/** The rules of LANGUAGE.md that can be looked up in the source or in the compiled class. */
public final class LanguageTests {
    private static final Path SOURCE = Path.of("src/main/java/LampRanks.java");

    private static final Set<String> FACE = new TreeSet<>(List.of(
            "node(int,int)", "line(int,int,int)", "mask(int,int)", "maskNode(int,int)", "threshold(int)",
            "late(int)", "lineOf(int,int)", "nodeOf(int,int)", "inputAt(int,int)", "edge(int)",
            "level(int,int)", "take()", "done()", "tick(int)", "next()", "orderAt(int)", "serviceAt(int)",
            "waitingAt(int)", "lines(int)", "count(int)", "undo()", "type(int)", "clearText()", "fault(int)",
            "play()"));

    private static final Set<String> CONSTANTS = new TreeSet<>(List.of(
            "INVALID_ARGUMENT", "NOT_POSSIBLE", "LIMIT_REACHED", "NOT_FOUND"));

    private static final List<String> RULED_OUT = List.of(
            "\\bpackage\\b", "\\bthrows?\\b", "\\btry\\b", "\\bcatch\\b", "\\bsynchronized\\b", "\\bassert\\b",
            "->", "::", "Exact\\b", "\\bSystem\\.(?!arraycopy)", "\\bnew\\s+Object\\b", "\\bThread\\b",
            "\\bRandom\\b", "\\bimport (?!java\\.util\\.(ArrayList|List|Arrays|Iterator);)",
            "(?<!import )\\bjava\\.", "\\bvar\\b", "\\bnative\\b", "\\btransient\\b",
            "\\bvolatile\\b", "\\bstatic\\s*\\{", "while\\s*\\(\\s*true", "for\\s*\\(\\s*;\\s*;", "\"\\s*\\+", "\\+\\s*\"");

    private static int wrong = 0;

    public static void main(String[] args) throws IOException {
        String source = Files.readString(SOURCE);
        String code = withoutComments(source);
        theFace();
        theWords(code);
        theSigns(source);
        theClasses(code);
        theMethods(code);
        System.out.println(wrong == 0 ? "the rules are kept" : wrong + " rules are broken");
        if (wrong != 0) {
            System.exit(1);
        }
    }

    private static void must(boolean is, String what) {
        if (!is) {
            wrong++;
            System.out.println(what);
        }
    }

    private static String withoutComments(String source) {
        return Pattern.compile("/\\*.*?\\*/", Pattern.DOTALL).matcher(source).replaceAll("").replaceAll("//.*", "");
    }

    private static void theFace() {
        Set<String> methods = new TreeSet<>();
        Set<String> others = new TreeSet<>();
        for (Method method : LampRanks.class.getDeclaredMethods()) {
            List<String> types = new ArrayList<>();
            for (Class<?> type : method.getParameterTypes()) {
                types.add(type.getName());
            }
            if (Modifier.isPrivate(method.getModifiers())) {
                others.add(method.getName());
            } else {
                must(Modifier.isPublic(method.getModifiers()) && !Modifier.isStatic(method.getModifiers())
                        && method.getReturnType() == int.class, "rule 1: " + method);
                methods.add(method.getName() + "(" + String.join(",", types) + ")");
            }
        }
        must(methods.equals(FACE), "rule 1: the methods are " + methods);
        for (Class<?> inside : LampRanks.class.getDeclaredClasses()) {
            must(Modifier.isStatic(inside.getModifiers()), "rule 1: " + inside + " isn't static");
            must(!Modifier.isPublic(inside.getModifiers()), "rule 1: " + inside + " is public");
            for (Method method : inside.getDeclaredMethods()) {
                others.add(method.getName());
            }
        }
        for (String face : FACE) {
            String name = face.substring(0, face.indexOf('('));
            must(!others.contains(name), "rule 1: another method has the name " + name);
        }
        Set<String> constants = new TreeSet<>();
        for (Field field : LampRanks.class.getDeclaredFields()) {
            if (!Modifier.isPrivate(field.getModifiers())) {
                constants.add(field.getName());
            }
            must(!Modifier.isStatic(field.getModifiers()) || Modifier.isFinal(field.getModifiers()),
                    "rule 5: " + field);
        }
        must(constants.equals(CONSTANTS), "rule 1: the fields are " + constants);
        Constructor<?>[] constructors = LampRanks.class.getDeclaredConstructors();
        must(constructors.length == 1 && Modifier.isPublic(constructors[0].getModifiers())
                && constructors[0].getParameterCount() == 0, "rule 1: the constructor");
        must(Modifier.isFinal(LampRanks.class.getModifiers()), "rule 1: the class isn't final");
    }

    private static void theWords(String code) {
        for (String word : RULED_OUT) {
            Matcher found = Pattern.compile(word).matcher(code);
            if (found.find()) {
                must(false, "ruled out is " + word + ": " + code.substring(found.start(), Math.min(code.length(), found.end() + 30)));
            }
        }
    }

    private static void theSigns(String source) {
        must(source.chars().allMatch(sign -> sign == '\n' || sign >= 32 && sign <= 126), "rule 4: a sign in the source");
    }

    private static void theClasses(String code) {
        Class<?>[] inside = LampRanks.class.getDeclaredClasses();
        must(inside.length + 1 <= 12, "rule 11: classes");
        for (Class<?> it : inside) {
            long fields = List.of(it.getDeclaredFields()).stream()
                    .filter(field -> !Modifier.isStatic(field.getModifiers()))
                    .count();
            must(fields <= 20, "rule 11: fields of " + it);
        }
        must(Pattern.compile("\\bclass\\b").matcher(code).results().count() == inside.length + 1, "rule 2: classes");
    }

    /** The lines of each method, from its head to the brace that stands as far in as the head. */
    private static void theMethods(String code) {
        String[] lines = code.split("\n");
        Pattern head = Pattern.compile("^( +)[\\w<>\\[\\] ]+\\(([^()]*)\\) \\{$");
        for (int k = 0; k < lines.length; k++) {
            Matcher found = head.matcher(lines[k]);
            if (!found.matches() || lines[k].strip().matches("(if|for|while|switch|else)\\b.*")) {
                continue;
            }
            int end = k;
            while (end < lines.length && !lines[end].equals(found.group(1) + "}")) {
                end++;
            }
            must(end - k < 60, "rule 11: too long is" + lines[k]);
            must(found.group(2).split(",").length <= 7, "rule 11: parameters of" + lines[k]);
        }
    }
}
