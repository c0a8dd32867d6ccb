import java.lang.reflect.InvocationTargetException;
import java.lang.reflect.Method;
import java.util.Arrays;
import java.util.Comparator;

/** Runs a class's tests one by one: each static method that takes a Due alone, named by the promise that it holds. */
final class Suite {
    private Suite() {
    }

    static void run(Class<?> tests) {
        Method[] methods = tests.getDeclaredMethods();
        Arrays.sort(methods, Comparator.comparing(Method::getName));
        int ran = 0;
        int failed = 0;
        for (Method test : methods) {
            if (Arrays.equals(test.getParameterTypes(), new Class<?>[] {Due.class})) {
                ran++;
                failed += passes(test) ? 0 : 1;
            }
        }
        System.out.println(tests.getName() + ": " + ran + " tests, " + failed + " failed");
        if (failed != 0 || ran == 0) {
            System.exit(1);
        }
    }

    private static boolean passes(Method test) {
        Due due = new Due(test.getName());
        try {
            test.setAccessible(true);
            test.invoke(null, due);
        } catch (InvocationTargetException e) {
            System.out.println(test.getName() + ": threw " + e.getCause());
            return false;
        } catch (IllegalAccessException e) {
            System.out.println(test.getName() + ": cannot be called: " + e);
            return false;
        }
        return due.allAsDue();
    }
}
