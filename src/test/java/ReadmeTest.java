import java.io.IOException;
import java.lang.reflect.Method;
import java.lang.reflect.Modifier;
import java.nio.file.Files;
import java.nio.file.Path;
import java.util.List;
import java.util.Set;
import java.util.TreeSet;
import java.util.regex.Matcher;
import java.util.regex.Pattern;
import java.util.stream.Collectors;
import java.util.stream.Stream;

/** What README.md says: each call that it shows answers so, all calls are shown, and its command and tests are there. */
public final class ReadmeTest {
    private static final Checks CHECKS = new Checks("ReadmeTest");
    private static final Path README = Path.of("README.md");
    private static final Pattern BLOCK = Pattern.compile("(?ms)^```(\\w*)\n(.*?)^```$");
    private static final String MADE = "SoldSeat seat = new SoldSeat();";
    private static final Pattern TYPED =
        Pattern.compile("for \\(char letter : \"([ -~&&[^\"\\\\]]*)\"\\.toCharArray\\(\\)\\) seat\\.type\\(letter\\);");
    private static final Pattern CALL = Pattern.compile("seat\\.(\\w+)\\(([-0-9, ]*)\\); +// (-?\\d+|[A-Z]+): .+");

    private static SoldSeat seat = null;
    private static final Set<String> SHOWN = new TreeSet<>();

    public static void main(String[] args) throws IOException, ReflectiveOperationException {
        String text = Files.readString(README);
        Matcher block = BLOCK.matcher(text);
        while (block.find()) {
            if (block.group(1).equals("java")) makeCalls(block.group(2));
            else lookAtCommand(block.group(2).trim());
        }
        CHECKS.due("calls that are shown: " + SHOWN + ", of " + face(), SHOWN.equals(face()));
        String prose = block.replaceAll("");
        lookAtNames(prose);
        lookAtConstants(prose);
        lookAtTests(prose);
        CHECKS.end();
    }

    private static Set<String> face() {
        return Stream.of(SoldSeat.class.getDeclaredMethods()).filter(m -> Modifier.isPublic(m.getModifiers()))
            .map(Method::getName).collect(Collectors.toCollection(TreeSet::new));
    }

    private static void makeCalls(String code) throws ReflectiveOperationException {
        for (String line : code.split("\n")) {
            Matcher typed = TYPED.matcher(line);
            Matcher call = CALL.matcher(line);
            if (line.equals(MADE)) {
                CHECKS.due("one object, made first", seat == null);
                seat = new SoldSeat();
            } else if (typed.matches()) {
                for (char letter : typed.group(1).toCharArray()) seat.type(letter);
                SHOWN.add("type");
            } else if (call.matches()) {
                CHECKS.due(line, answer(call.group(1), call.group(2)), told(call.group(3)));
                SHOWN.add(call.group(1));
            } else {
                CHECKS.due("not understood: " + line, false);
            }
        }
    }

    /** What a call answers; that it has as many numbers as the document's, too. */
    private static long answer(String name, String numbers) throws ReflectiveOperationException {
        String[] given = numbers.isEmpty() ? new String[0] : numbers.split(", ");
        for (Method method : SoldSeat.class.getDeclaredMethods()) {
            if (!method.getName().equals(name) || method.getParameterCount() != given.length) continue;
            Object[] values = new Object[given.length];
            for (int i = 0; i < given.length; i++) {
                if (method.getParameterTypes()[i] == long.class) values[i] = Long.parseLong(given[i]);
                else values[i] = Integer.parseInt(given[i]);
            }
            return ((Number) method.invoke(seat, values)).longValue();
        }
        throw new NoSuchMethodException(name + " of " + given.length);
    }

    private static long told(String words) throws ReflectiveOperationException {
        return Character.isLetter(words.charAt(0)) ? SoldSeat.class.getField(words).getInt(null) : Long.parseLong(words);
    }

    private static void lookAtCommand(String command) {
        CHECKS.due("the command " + command, command.equals(".ci/run"));
        CHECKS.due(command + " can be run", Files.isExecutable(Path.of(command)));
    }

    /** Files and folders that are named are there. */
    private static void lookAtNames(String prose) {
        Matcher name = Pattern.compile("`([^` *]*/[^` *]*)`").matcher(prose);
        while (name.find()) {
            CHECKS.due("there is " + name.group(1), name.group(1).equals("//") || Files.exists(Path.of(name.group(1))));
        }
    }

    private static void lookAtConstants(String prose) throws ReflectiveOperationException {
        Matcher row = Pattern.compile("(?m)^\\| `([A-Z]+)` \\| (-\\d+) \\|").matcher(prose);
        int rows = 0;
        for (; row.find(); rows++) {
            CHECKS.due("constant " + row.group(1), told(row.group(2)), told(row.group(1)));
        }
        CHECKS.due("constants", rows, SoldSeat.class.getFields().length);
    }

    /** The tests that are listed are the project's, all of them. */
    private static void lookAtTests(String prose) throws IOException {
        Set<String> listed = new TreeSet<>();
        Matcher item = Pattern.compile("(?m)^- `(\\w+Test)`: ").matcher(prose);
        while (item.find()) {
            listed.add(item.group(1));
        }
        try (Stream<Path> files = Files.list(Path.of("src/test/java"))) {
            List<String> tests = files.map(file -> file.getFileName().toString()).filter(f -> f.endsWith("Test.java"))
                .map(file -> file.substring(0, file.length() - ".java".length())).sorted().collect(Collectors.toList());
            CHECKS.due("tests listed: " + listed + ", there are " + tests, listed.equals(new TreeSet<>(tests)));
        }
    }
}
