import java.io.File;
import java.lang.reflect.Method;
import java.util.HashSet;
import java.util.Set;

/** Each sentence of a promise and of "Terms" has a test of its own in one of the boundary suites. */
final class SentenceIndexTests {
    private static final File TESTS = new File("src/test/java");

    private SentenceIndexTests() {
    }

    public static void main(String[] args) throws ClassNotFoundException {
        Set<String> tested = new HashSet<>();
        for (String name : TESTS.list((folder, file) -> file.endsWith("BoundaryTests.java"))) {
            for (Method test : Sentences.testsOf(Class.forName(name.replace(".java", "")))) {
                Sentence sentence = test.getAnnotation(Sentence.class);
                for (String found : Document.find(sentence.of(), sentence.says())) {
                    tested.add(sentence.of() + ": " + found);
                }
            }
        }
        int headings = 0;
        for (String heading : Document.headings()) {
            headings++;
            for (String sentence : Document.sentencesOf(heading)) {
                if (Document.needsATest(sentence)) {
                    Check.holds("a test of \"" + heading + ": " + sentence + "\"",
                            tested.contains(heading + ": " + sentence));
                }
            }
        }
        Check.same("headings", headings, 66);
        Check.finish("SentenceIndexTests");
    }
}
