import java.io.IOException;
import java.lang.reflect.Method;
import java.util.ArrayList;
import java.util.HashMap;
import java.util.HashSet;
import java.util.List;
import java.util.Map;
import java.util.Set;

/**
 * Tests that the tests of sentences quote the document word for word, and that none of its sentences is left
 * without a test: each of a promise, and each among the terms that names a boundary.
 */
public final class SentenceTest {
    private static final Class<?>[] TESTS = {TileBoundaryTest.class, KeyAndWalkerBoundaryTest.class,
        QueryBoundaryTest.class, PathBoundaryTest.class, ProgramBoundaryTest.class, UndoBoundaryTest.class};
    // Words of the section "Terms" that only say what something is called, or what comes next.
    private static final Set<String> NO_BOUNDARY = Set.of(
            "A program has this grammar:", "<pre>", "</pre>", "```text", "```",
            "In each cell, which is told by its row and its column, lies a tile.",
            "A tile has openings to some of the four directions.",
            "A walker stands on a tile.",
            // No method answers a division of integers.
            "All divisions of integers are rounded down.");
    private static int wrong = 0;

    private SentenceTest() {
    }

    public static void main(String[] args) throws IOException {
        Document document = new Document();
        Map<Integer, Set<String>> told = new HashMap<>();
        Set<String> all = new HashSet<>();
        int tests = 0;
        for (Class<?> group : TESTS) {
            for (Method test : Sentences.in(group)) {
                Sentence sentence = test.getAnnotation(Sentence.class);
                told.computeIfAbsent(sentence.promise(), number -> new HashSet<>()).add(sentence.says());
                all.add(sentence.says());
                checkQuoted(document, test.getName(), sentence);
                tests++;
            }
        }
        checkPromises(document, told);
        checkTerms(document, all);
        System.out.println(tests + " tests of " + all.size() + " sentences, " + wrong + " faults");
        System.exit(wrong == 0 ? 0 : 1);
    }

    private static void checkQuoted(Document document, String test, Sentence sentence) {
        List<String> sources = new ArrayList<>(document.sentencesOfPromise(sentence.promise()));
        if (sentence.promise() == 22) {
            // "The same number" is that of promise 21.
            sources.addAll(document.sentencesOfPromise(21));
        }
        sources.addAll(document.sentencesOfTerms());
        sources.addAll(document.sentencesOfWhatItIs());
        check(sources.contains(sentence.says()),
                test + " quotes what promise " + sentence.promise() + " does not say: " + sentence.says());
    }

    private static void checkPromises(Document document, Map<Integer, Set<String>> told) {
        check(!document.promises().isEmpty(), "the document has promises");
        for (int promise : document.promises()) {
            for (String sentence : document.sentencesOfPromise(promise)) {
                boolean names = sentence.matches("`(row|column|walker)`: .*");
                check(names || told.getOrDefault(promise, Set.of()).contains(sentence),
                        "promise " + promise + " has no test of: " + sentence);
            }
        }
    }

    private static void checkTerms(Document document, Set<String> all) {
        for (String sentence : document.sentencesOfTerms()) {
            boolean label = sentence.matches("[A-Z][a-z]+( and [a-z]+)?\\.");
            boolean heading = sentence.startsWith("Ahead of the calls ");
            check(label || heading || NO_BOUNDARY.contains(sentence) || all.contains(sentence),
                    "the terms have no test of: " + sentence);
        }
    }

    private static void check(boolean right, String message) {
        if (!right) {
            wrong++;
            System.out.println(message);
        }
    }
}
