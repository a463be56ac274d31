import java.lang.reflect.InvocationTargetException;
import java.lang.reflect.Method;
import java.nio.file.Files;
import java.nio.file.Path;
import java.util.Arrays;
import java.util.Comparator;
import java.util.List;
import java.util.Set;
import java.util.TreeSet;

/** Runs every Edge by itself, names those that fail, and looks whether the document still says their words. */
public final class EdgesTest {
    private static final int PROMISES = 20;
    private static final Path DOCUMENT = Path.of("../shared/DOC.md");
    private static final List<Class<?>> GROUPS = List.of(TermsEdges.class, TextEdges.class, RefusedEdges.class, WorksEdges.class,
        BobbinsEdges.class, SameEdges.class, ImagesEdges.class);

    public static void main(String[] args) throws Exception {
        Due all = new Due();
        Set<Integer> promises = new TreeSet<>();
        String document = Files.exists(DOCUMENT) ? Files.readString(DOCUMENT) : null;
        for (Class<?> group : GROUPS) {
            for (Method test : testsOf(group)) {
                Edge edge = test.getAnnotation(Edge.class);
                promises.add(edge.promise());
                all.is(group.getName() + "." + test.getName() + " (" + edge.promise() + ": " + edge.says() + "): wrong answers",
                    wrongAnswers(test), 0);
                if (document != null && !placeOf(edge.promise(), document).contains(edge.says())) {
                    all.fail("the document does not say under " + edge.promise() + ": " + edge.says());
                }
            }
        }
        for (int promise = 0; promise <= PROMISES; promise++) {
            all.is("promise " + promise + " has an edge", promises.contains(promise) ? 1 : 0, 1);
        }
        all.end();
    }

    private static List<Method> testsOf(Class<?> group) {
        return Arrays.stream(group.getDeclaredMethods()).filter(m -> m.isAnnotationPresent(Edge.class))
            .sorted(Comparator.comparing(Method::getName)).toList();
    }

    /** A test that throws, or that asks nothing, fails too. */
    private static int wrongAnswers(Method test) throws IllegalAccessException {
        Due due = new Due();
        try {
            test.invoke(null, new Talk(due));
        } catch (InvocationTargetException thrown) {
            due.fail("threw " + thrown.getCause());
        }
        return due.asked() == 0 ? 1 : due.wrong();
    }

    private static String placeOf(int promise, String document) {
        int start = promise == 0 ? 0 : Math.max(document.indexOf("## Promise " + promise + ":"), 0);
        int end = document.indexOf(promise == PROMISES ? "## Not promised" : "## Promise " + (promise + 1) + ":");
        return document.substring(start, end < start ? document.length() : end);
    }
}
