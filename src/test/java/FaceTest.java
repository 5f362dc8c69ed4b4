import java.io.IOException;
import java.lang.reflect.Constructor;
import java.lang.reflect.Field;
import java.lang.reflect.Method;
import java.lang.reflect.Modifier;
import java.nio.file.Files;
import java.nio.file.Path;
import java.util.Set;
import java.util.TreeSet;
import java.util.regex.Matcher;
import java.util.regex.Pattern;

/** The public face is the document's and no more, and the source keeps to what LANGUAGE.md lets be seen from outside. */
public final class FaceTest {
    private static final Checks CHECKS = new Checks("FaceTest");
    private static final String FACE = "buyer iii i, of ii i, turn i i, type i i, theatre  i, count i i, minutes i i, "
        + "learnt ii i, sent i i, called  i, changed ii i, drift i i, undo  i, seed i i, ahead ii i, seen ii i, "
        + "first i i, round i i, turns iii i, fair ii i, learn iii i, pay ii i, send iii i, ousts i i, safe  i, "
        + "miss iiii i, image  i, restore  i, stubs iiiiii i, gaps iiiiii l, film iiii i, sheet iii i, drop i i, "
        + "item iiil i, copy iiiii i";
    private static final String[] CONSTANTS = {"BAD", "NOT", "FULL", "NONE", "NULL", "CAST", "INDEX", "SIZE"};
    private static final int[] VALUES = {-1, -2, -3, -4, -11, -12, -13, -14};

    public static void main(String[] args) throws IOException, ReflectiveOperationException {
        lookAtTheClass();
        lookAtMethods();
        lookAtConstants();
        lookAtClassesInside();
        lookAtTheSource();
        lookAtTheDocumentsFace();
        CHECKS.end();
    }

    private static void lookAtTheClass() {
        int modifiers = SoldSeat.class.getModifiers();
        CHECKS.due("public and final", Modifier.isPublic(modifiers) && Modifier.isFinal(modifiers));
        Constructor<?>[] constructors = SoldSeat.class.getDeclaredConstructors();
        CHECKS.due("constructors", constructors.length, 1);
        CHECKS.due("its parameters", constructors[0].getParameterCount(), 0);
        CHECKS.due("it is public", Modifier.isPublic(constructors[0].getModifiers()));
    }

    private static void lookAtMethods() {
        Set<String> due = new TreeSet<>(Set.of(FACE.split(", ")));
        Set<String> names = new TreeSet<>();
        Set<String> found = new TreeSet<>();
        for (Method method : SoldSeat.class.getDeclaredMethods()) {
            if (Modifier.isPrivate(method.getModifiers())) continue;
            CHECKS.due(method.getName() + " is public", Modifier.isPublic(method.getModifiers()));
            CHECKS.due(method.getName() + " is not static", !Modifier.isStatic(method.getModifiers()));
            found.add(method.getName() + " " + letters(method.getParameterTypes()) + " " + letters(method.getReturnType()));
            names.add(method.getName());
        }
        CHECKS.due("public methods are " + found + ", due are " + due, found.equals(due));
        CHECKS.due("public methods", due.size(), 35);
        for (Method method : SoldSeat.class.getDeclaredMethods()) {
            boolean own = Modifier.isPrivate(method.getModifiers());
            CHECKS.due(method.getName() + " bears a public name", !own || !names.contains(method.getName()));
            CHECKS.due(method.getName() + " has seven parameters at most", method.getParameterCount() <= 7);
        }
    }

    private static String letters(Class<?>... types) {
        StringBuilder letters = new StringBuilder();
        for (Class<?> type : types) {
            letters.append(type.getName().charAt(0));
        }
        return letters.toString();
    }

    private static void lookAtConstants() throws ReflectiveOperationException {
        for (int i = 0; i < CONSTANTS.length; i++) {
            Field field = SoldSeat.class.getField(CONSTANTS[i]);
            CHECKS.due(CONSTANTS[i], field.getInt(null), VALUES[i]);
        }
        int open = 0;
        for (Field field : SoldSeat.class.getDeclaredFields()) {
            int modifiers = field.getModifiers();
            if (!Modifier.isPrivate(modifiers)) open++;
            CHECKS.due(field.getName() + " is final, if static", !Modifier.isStatic(modifiers) || Modifier.isFinal(modifiers));
        }
        CHECKS.due("fields that are not private", open, CONSTANTS.length);
    }

    private static void lookAtClassesInside() {
        Class<?>[] inside = SoldSeat.class.getDeclaredClasses();
        CHECKS.due("twelve classes at most", inside.length < 12);
        for (Class<?> one : inside) {
            CHECKS.due(one.getName() + " is static", Modifier.isStatic(one.getModifiers()));
            CHECKS.due(one.getName() + " is not public", !Modifier.isPublic(one.getModifiers()));
        }
    }

    private static void lookAtTheSource() throws IOException {
        String source = Files.readString(Path.of("src/main/java/SoldSeat.java"));
        CHECKS.due("only plain signs", source.chars().allMatch(c -> c == '\n' || (c >= 32 && c < 127)));
        String[] refused = {"->", "::", "\\bfinally\\b", "\\bassert\\b", "\\bsynchronized\\b", "\\bpackage\\b",
            "\\btry\\b", "\\bcatch\\b", "\\bthrow\\b", "\\bMAX_VALUE\\b", "\\w+Exact\\b", "\\bhashCode\\b",
            "\\btoString\\b", "\\bRandom\\b", "\\bThread\\b", "System\\.(?!arraycopy)", "Arrays\\.(?!fill)"};
        String code = source.replaceAll("/\\*[\\s\\S]*?\\*/|//[^\n]*", "");
        for (String pattern : refused) {
            Matcher matcher = Pattern.compile(pattern).matcher(code);
            CHECKS.due("the source has " + pattern, !matcher.find());
        }
        Matcher imports = Pattern.compile("(?m)^import (.*);").matcher(code);
        while (imports.find()) {
            CHECKS.due("import of " + imports.group(1), imports.group(1).equals("java.util.Arrays"));
        }
    }

    /** Each line of the face stands in the source, in its order, with the names that the document gives. */
    private static void lookAtTheDocumentsFace() throws IOException {
        String source = Files.readString(Path.of("src/main/java/SoldSeat.java"));
        String document = Files.readString(Path.of("../shared/DOC.md"));
        int start = document.indexOf("```java") + "```java".length();
        int at = 0;
        int lines = 0;
        for (String line : document.substring(start, document.indexOf("```", start)).split("\n")) {
            if (!line.contains("public")) continue;
            String due = line.endsWith(");") ? line.substring(0, line.length() - 1) + " {" : line;
            int found = source.indexOf(due + "\n", at);
            CHECKS.due("the source has " + due.trim(), found >= 0);
            at = Math.max(at, found);
            lines++;
        }
        CHECKS.due("class, constants, constructor and methods", lines, 1 + 1 + 1 + 35);
    }
}
