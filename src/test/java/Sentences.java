import java.lang.reflect.InvocationTargetException;
import java.lang.reflect.Method;
import java.util.ArrayList;
import java.util.Comparator;
import java.util.List;

/** Runs the tests of a class that are marked with the sentence they are of. */
final class Sentences {
    private Sentences() {
    }

    static List<Method> of(Class<?> tests) {
        List<Method> all = new ArrayList<>();
        for (Method test : tests.getDeclaredMethods()) {
            if (test.isAnnotationPresent(Sentence.class)) {
                all.add(test);
            }
        }
        all.sort(Comparator.comparing(Method::getName));
        return all;
    }

    static void run(Class<?> tests) {
        List<Method> all = of(tests);
        for (Method test : all) {
            Sentence sentence = test.getAnnotation(Sentence.class);
            Check.about(sentence.in() + " - " + sentence.says() + " - " + test.getName());
            int before = Check.made();
            Check.same("what ended the test early, 1 if something did", endsEarly(test), 0);
            Check.yes("the test checks something", Check.made() > before + 1);
        }
        System.out.println(tests.getName() + ": " + all.size() + " tests");
        Check.end(tests.getName());
    }

    private static int endsEarly(Method test) {
        try {
            test.invoke(null);
            return 0;
        } catch (InvocationTargetException e) {
            e.getCause().printStackTrace(System.out);
            return 1;
        } catch (IllegalAccessException e) {
            System.out.println(test.getName() + " can't be run");
            return 1;
        }
    }
}
