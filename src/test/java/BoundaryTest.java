import java.io.IOException;
import java.lang.reflect.InvocationTargetException;
import java.lang.reflect.Method;
import java.nio.file.Files;
import java.util.ArrayList;
import java.util.Comparator;
import java.util.List;

/** Runs the tests of boundary cases, each of which names its promise and sentence, and tells sentences without a test. */
public final class BoundaryTest {
    private static final List<Class<?>> GROUPS = List.of(DrawBounds.class, AskBounds.class, FoldBounds.class,
            LineBounds.class, TextBounds.class, HistoryBounds.class);

    private BoundaryTest() {
    }

    public static void main(String[] args) throws IOException, IllegalAccessException {
        Sentences sentences = new Sentences(Files.readString(Due.DOCUMENT));
        Due.compare("promises of the document", 43, sentences.promises());
        List<Method> tests = tests();
        for (Method test : tests) {
            Holds holds = test.getAnnotation(Holds.class);
            sentences.hold(holds.promise(), holds.says());
            run(test, holds);
        }
        for (String sentence : sentences.unheld()) {
            Due.compare("a test that holds: " + sentence, "there", "missing");
        }
        System.out.println("BoundaryTest: " + tests.size() + " tests of sentences");
        Due.end("BoundaryTest");
    }

    private static List<Method> tests() {
        List<Method> tests = new ArrayList<>();
        for (Class<?> group : GROUPS) {
            for (Method method : group.getDeclaredMethods()) {
                if (method.isAnnotationPresent(Holds.class)) {
                    tests.add(method);
                }
            }
        }
        // Reflection tells methods in no order; the same order each time makes two runs easy to compare.
        tests.sort(Comparator.comparingInt((Method test) -> test.getAnnotation(Holds.class).promise())
                .thenComparing(Method::getName));
        return tests;
    }

    private static void run(Method test, Holds holds) throws IllegalAccessException {
        int differing = Due.differing();
        int counted = Due.counted();
        try {
            test.invoke(null);
        } catch (InvocationTargetException e) {
            Due.compare(test.getName(), "no exception", e.getCause());
        }
        if (Due.counted() == counted) {
            Due.compare(test.getName(), "answers", "none");
        }
        if (Due.differing() != differing) {
            System.out.println("NOT HELD by " + test.getName() + ": promise " + holds.promise() + ", \"" + holds.says() + "\"");
        }
    }
}
