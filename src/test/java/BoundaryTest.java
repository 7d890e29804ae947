import java.lang.reflect.Method;
import java.lang.reflect.Modifier;
import java.util.Arrays;
import java.util.Comparator;
import java.util.Set;
import java.util.TreeSet;

/**
 * Each sentence of the document that names a boundary has a test of its own, a method that is named by the promise's
 * number and what the sentence bounds. Here all of them are found and run.
 */
public final class BoundaryTest {
    private static final Class<?>[] GROUPS = {TextBoundaries.class, LookBoundaries.class, ActBoundaries.class,
        DayBoundaries.class, UndoBoundaries.class};
    private static final int PROMISES = 26;

    private BoundaryTest() {
    }

    public static void main(String[] args) throws ReflectiveOperationException {
        int passed = 0;
        int failed = 0;
        Set<Integer> promises = new TreeSet<>();
        for (Class<?> group : GROUPS) {
            for (Method test : tests(group)) {
                int before = Check.wrongAnswers();
                test.invoke(null);
                promises.add(Integer.parseInt(test.getName().substring(7, 9)));
                boolean isFine = Check.wrongAnswers() == before;
                passed += isFine ? 1 : 0;
                failed += isFine ? 0 : 1;
                System.out.print(isFine ? "" : "FAILED: " + test.getName() + "\n");
            }
        }
        Check.same("promises that have a test", promises.size(), PROMISES);
        System.out.println("BoundaryTest: " + passed + " passed, " + failed + " failed");
        Check.finish("BoundaryTest");
    }

    private static Method[] tests(Class<?> group) {
        return Arrays.stream(group.getDeclaredMethods())
            .filter(m -> !Modifier.isPrivate(m.getModifiers()) && m.getName().matches("promise[0-9]{2}[A-Z].*"))
            .sorted(Comparator.comparing(Method::getName))
            .toArray(Method[]::new);
    }
}
