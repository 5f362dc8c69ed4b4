import java.io.IOException;
import java.lang.reflect.Method;
import java.nio.file.Files;
import java.nio.file.Path;
import java.util.ArrayList;
import java.util.List;
import java.util.Set;
import java.util.TreeSet;

/** Every sentence of the document, each by a test that quotes it; each that names a boundary by one of its own. */
public final class SentencesTest {
    private static final Class<?>[] GROUPS = {BuyerBounds.class, TextBounds.class, DoneBounds.class,
        ForetoldBounds.class, AdviceBounds.class, SheetBounds.class, KindRules.class, Rules.class};

    public static void main(String[] args) throws IOException, ReflectiveOperationException {
        for (Method test : tests()) {
            Bounds.lookAt(test.getAnnotation(Says.class));
            test.invoke(null);
        }
        Path path = Path.of("../shared/DOC.md");
        if (Files.isReadable(path)) {
            lookAtQuotes(new Document(path));
        } else {
            System.out.println("SentencesTest: no " + path + ", so quotes are not looked at");
        }
        Bounds.CHECKS.end();
    }

    private static List<Method> tests() {
        List<Method> tests = new ArrayList<>();
        for (Class<?> group : GROUPS) {
            for (Method method : group.getDeclaredMethods()) {
                if (method.isAnnotationPresent(Says.class)) tests.add(method);
            }
        }
        return tests;
    }

    /** That each quote is true, and that no words of the document are left that no test quotes. */
    private static void lookAtQuotes(Document document) {
        Set<Integer> promises = new TreeSet<>();
        for (Method test : tests()) {
            Says says = test.getAnnotation(Says.class);
            Bounds.lookAt(says);
            Bounds.due("stands in the document once", document.quote(says.promise(), says.sentence()) ? 1 : 0, 1);
            promises.add(says.promise());
        }
        for (String words : document.unquoted()) {
            Bounds.CHECKS.due("no test quotes " + words, false);
        }
        Bounds.CHECKS.due("promises that have such a test", promises.size(), Document.PROMISES);
    }
}
