import java.lang.reflect.InvocationTargetException;
import java.lang.reflect.Method;
import java.util.ArrayList;
import java.util.Comparator;
import java.util.List;

/** Runs the tests of a suite that bear a sentence of the document. */
final class Sentences {
    private Sentences() {
    }

    static List<Method> testsOf(Class<?> suite) {
        List<Method> tests = new ArrayList<>();
        for (Method method : suite.getDeclaredMethods()) {
            if (method.isAnnotationPresent(Sentence.class)) {
                tests.add(method);
            }
        }
        tests.sort(Comparator.comparing(Method::getName));
        return tests;
    }

    static void run(Class<?> suite) {
        for (Method test : testsOf(suite)) {
            Sentence sentence = test.getAnnotation(Sentence.class);
            Check.part(test.getName() + " (" + sentence.of() + ", \"" + sentence.says() + "\")");
            Check.same("sentences of the document with these words",
                    Document.find(sentence.of(), sentence.says()).size(), 1);
            Check.holds("its name tells the heading", isNamedAfter(sentence.of(), test.getName()));
            runOne(test);
        }
        Check.finish(suite.getSimpleName());
    }

    private static boolean isNamedAfter(String heading, String name) {
        return name.matches(heading.replace("Promise ", "promise").replace("Terms", "terms") + "[A-Z].*");
    }

    private static void runOne(Method test) {
        int before = Check.count();
        try {
            test.invoke(null);
        } catch (InvocationTargetException e) {
            Check.same("the test ends", e.getCause(), "well");
        } catch (IllegalAccessException e) {
            Check.same("the test runs", e, "well");
        }
        Check.holds("the test checks something", Check.count() > before);
    }
}
