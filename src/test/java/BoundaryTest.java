import java.lang.reflect.InvocationTargetException;
import java.lang.reflect.Method;
import java.util.ArrayList;
import java.util.Comparator;
import java.util.List;
import java.util.Map;

/**
 * Runs each test that holds a sentence of the document at its boundaries, and looks whether each sentence of each
 * promise is quoted by a test, word for word.
 */
public final class BoundaryTest {
    private static final List<Class<?>> TESTS = List.of(Promises1To4.class, Promises5To8.class, Promises9To14.class, Promises15To19.class, Promises20To25.class);

    /** Which promises use a term: a sentence that stands ahead of all of them, known by how it begins. */
    private static final Map<String, List<Integer>> TERMS = Map.ofEntries(
            Map.entry("An object is used for at most 512 calls", List.of(1)),
            Map.entry("A method that fails returns", List.of(2, 3, 4, 5, 8, 9, 10, 11, 12, 13, 15, 18, 19, 20, 25)),
            Map.entry("A call that returns an error changes nothing.",
                    List.of(2, 3, 4, 5, 6, 7, 8, 9, 10, 11, 12, 13, 14, 15, 17, 18, 19, 20, 23, 24, 25)),
            Map.entry("NONE (-6) is not an error", List.of(10, 11, 13, 14, 15, 18, 22)),
            Map.entry("Everything is numbered from 0.", List.of(2, 3, 5, 13, 24, 25)),
            Map.entry("Sets of singers", List.of(12, 14)),
            Map.entry("There are up to 12 singers", List.of(2, 14)),
            Map.entry("A singer has a voice", List.of(2, 4, 9)),
            Map.entry("There are up to 16 songs", List.of(3, 14)),
            Map.entry("A song has", List.of(3, 12)),
            Map.entry("A song can be shifted", List.of(5, 8, 10, 11, 12, 19)),
            Map.entry("A key fits", List.of(5, 11, 12, 19)),
            Map.entry("The key of a song", List.of(5, 8, 10, 11, 12, 19)),
            Map.entry("There are up to 20 wishes", List.of(5, 6, 7, 8, 14)),
            Map.entry("A wish is one singer", List.of(5, 8, 10)),
            Map.entry("A wish is ready", List.of(7, 10, 14, 15, 16, 17, 18)),
            Map.entry("The singers of the latest turn", List.of(7, 9, 10, 14, 15, 18)),
            Map.entry("The next wish is", List.of(7, 14, 15, 18)),
            Map.entry("If none is ready and fresh", List.of(7, 14, 15, 18)),
            Map.entry("If none is ready, there is none.", List.of(7, 14, 16)),
            Map.entry("In a turn the next wish is sung", List.of(7)),
            Map.entry("Time is in minutes", List.of(1, 14, 15, 16)),
            Map.entry("If somebody tired leaves", List.of(4)),
            Map.entry("The pad is a text", List.of(8, 14, 20, 22)),
            Map.entry("The fault is", List.of(8, 22)),
            Map.entry("The constants", List.of(1)),
            Map.entry("Ahead of the calls `singer`", List.of(4)),
            Map.entry("Ahead of the calls `of`", List.of(14)),
            Map.entry("Ahead of the calls `turnOf`", List.of(15, 16, 17, 18, 19)),
            Map.entry("Ahead of the calls `put`", List.of(20, 21)),
            Map.entry("Ahead of the calls `undo`", List.of(23, 24)));

    /** Lines ahead of the promises that promise nothing of their own. */
    private static final List<String> TITLES = List.of("A queue of singers who sing songs", "CONVENTIONS.",
            "Singers, songs", "Wishes, turns");

    public static void main(String[] args) throws Exception {
        Document document = Document.read();
        List<Method> tests = tests();
        for (Method test : tests) {
            Holds holds = test.getAnnotation(Holds.class);
            if (!document.quote(holds.promise(), holds.says())) {
                Checks.fail(test.getName() + ": promise " + holds.promise() + " has no sentence '" + holds.says() + "'");
            }
            run(test);
        }
        findWhatIsNotHeld(document);
        System.out.println("BoundaryTest: " + tests.size() + " tests, " + Checks.checked() + " answers checked, "
                + Checks.wrong() + " wrong");
        if (Checks.wrong() != 0) {
            System.exit(1);
        }
    }

    private static List<Method> tests() {
        List<Method> tests = new ArrayList<>();
        for (Class<?> one : TESTS) {
            for (Method method : one.getDeclaredMethods()) {
                if (method.isAnnotationPresent(Holds.class)) {
                    tests.add(method);
                }
            }
        }
        tests.sort(Comparator.comparingInt((Method m) -> m.getAnnotation(Holds.class).promise())
                .thenComparing(Method::getName));
        return tests;
    }

    private static void run(Method test) throws IllegalAccessException {
        try {
            test.invoke(null);
        } catch (InvocationTargetException e) {
            Checks.fail(test.getName() + ": " + e.getCause());
            e.getCause().printStackTrace(System.out);
        }
    }

    private static void findWhatIsNotHeld(Document document) {
        for (Document.Sentence sentence : document.sentences()) {
            boolean isTitle = TITLES.stream().anyMatch(sentence.text::startsWith);
            if (!isTitle && !sentence.rest().isEmpty()) {
                Checks.fail("promise " + sentence.promise + ": no test for '" + sentence.rest() + "' in '" + sentence.text + "'");
            }
            if (!isTitle && sentence.promise == 0) {
                findPromisesWithout(sentence);
            }
        }
    }

    /** A boundary that a term names belongs to each promise that uses the term. */
    private static void findPromisesWithout(Document.Sentence term) {
        List<Integer> users = TERMS.entrySet().stream().filter(e -> term.text.startsWith(e.getKey()))
                .flatMap(e -> e.getValue().stream()).toList();
        if (users.isEmpty()) {
            Checks.fail("no promise uses '" + term.text + "'");
        }
        for (int promise : users) {
            if (!term.quotedFor.contains(promise)) {
                Checks.fail("promise " + promise + ": no test for '" + term.text + "'");
            }
        }
    }
}
