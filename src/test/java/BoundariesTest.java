import java.io.IOException;
import java.lang.reflect.Method;
import java.nio.file.Files;
import java.nio.file.Path;
import java.util.ArrayList;
import java.util.List;
import java.util.Set;
import java.util.TreeSet;

/** Every sentence of the document that names a boundary, each by a test of its own that quotes it. */
public final class BoundariesTest {
    private static final Class<?>[] GROUPS = {BuyerBounds.class, TextBounds.class, DoneBounds.class,
        ForetoldBounds.class, AdviceBounds.class, SheetBounds.class};

    public static void main(String[] args) throws IOException, ReflectiveOperationException {
        for (Method test : tests()) {
            Bounds.lookAt(test.getAnnotation(Says.class));
            test.invoke(null);
        }
        Path path = Path.of("../shared/DOC.md");
        if (Files.isReadable(path)) {
            lookAtQuotes(new Document(path));
        } else {
            System.out.println("BoundariesTest: no " + path + ", so quotes are not looked at");
        }
        Bounds.CHECKS.end();
    }

    private static List<Method> tests() {
        List<Method> tests = new ArrayList<>();
        for (Class<?> group : GROUPS) {
            for (Method method : group.getDeclaredMethods()) {
                if (method.isAnnotationPresent(Says.class)) tests.add(method);
            }
        }
        return tests;
    }

    /** That each quote is true, and that the tests quote every boundary and every promise. */
    private static void lookAtQuotes(Document document) {
        Set<Integer> promises = new TreeSet<>();
        for (Method test : tests()) {
            Says says = test.getAnnotation(Says.class);
            Bounds.lookAt(says);
            Bounds.due("stands in the document once", document.quote(says.promise(), says.sentence()) ? 1 : 0, 1);
            promises.add(says.promise());
        }
        for (String words : document.unquoted()) {
            Bounds.CHECKS.due("no test quotes " + words, false);
        }
        Bounds.CHECKS.due("promises that have such a test", promises.size(), Document.PROMISES);
    }
}
