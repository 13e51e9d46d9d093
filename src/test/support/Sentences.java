import java.lang.reflect.InvocationTargetException;
import java.lang.reflect.Method;
import java.util.ArrayList;
import java.util.Comparator;
import java.util.List;

/** Carries out the tests of sentences that stand in a class, each with an object of its own. */
final class Sentences {
    private Sentences() {
    }

    /** Ends the machine, with exit code 1 if a test failed. */
    static void run(Class<?> tests) {
        List<Method> all = in(tests);
        int failed = 0;
        for (Method test : all) {
            List<String> faults = faultsOf(test);
            if (!faults.isEmpty()) {
                failed++;
                Sentence sentence = test.getAnnotation(Sentence.class);
                System.out.println("failed: " + test.getName() + ", promise " + sentence.promise() + ", \""
                        + sentence.says() + "\"");
                for (String fault : faults) {
                    System.out.println("    " + fault);
                }
            }
        }
        System.out.println(all.size() + " tests of sentences, " + failed + " failed");
        System.exit(failed == 0 && !all.isEmpty() ? 0 : 1);
    }

    static List<Method> in(Class<?> tests) {
        List<Method> found = new ArrayList<>();
        for (Method method : tests.getDeclaredMethods()) {
            if (method.isAnnotationPresent(Sentence.class)) {
                found.add(method);
            }
        }
        found.sort(Comparator.comparing((Method method) -> method.getAnnotation(Sentence.class).promise())
                .thenComparing(Method::getName));
        return found;
    }

    private static List<String> faultsOf(Method test) {
        Bench bench = new Bench();
        List<String> faults = bench.faults();
        try {
            test.setAccessible(true);
            test.invoke(null, bench);
        } catch (InvocationTargetException e) {
            faults.add("the test itself broke off: " + e.getCause());
        } catch (IllegalAccessException e) {
            faults.add("the test cannot be called: " + e);
        }
        if (bench.checks() == 0) {
            faults.add("the test checks nothing");
        }
        return faults;
    }
}
