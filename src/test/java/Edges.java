import java.lang.reflect.InvocationTargetException;
import java.lang.reflect.Method;
import java.util.Arrays;
import java.util.Comparator;
import java.util.List;
import java.util.TreeSet;
import java.util.function.IntUnaryOperator;

/**
 * What tests of boundary cases share. Each of their methods is one case and is named by the promise's number
 * and the case, p14NotThereYet; all of a class are run, and each promise it is for must have one.
 */
abstract class Edges {
    static final int NONE = BurntHall.NONE;
    static final int RANGE = BurntHall.RANGE;
    static final int FULL = BurntHall.FULL;
    static final int STATE = BurntHall.STATE;
    static final int NO_SUCH = -9;
    static final int LEAST = Integer.MIN_VALUE;
    static final int MOST = Integer.MAX_VALUE;

    static void run(Class<?> tests, int first, int last) {
        List<Method> cases = Arrays.stream(tests.getDeclaredMethods()).filter(m -> m.getName().matches("p\\d\\d\\w+"))
                .sorted(Comparator.comparing(Method::getName)).toList();
        TreeSet<Integer> promises = new TreeSet<>();
        for (Method m : cases) {
            promises.add(Integer.parseInt(m.getName().substring(1, 3)));
            Due.begin("promise " + m.getName().substring(1, 3) + ", " + m.getName().substring(3) + ": ");
            invoke(m);
            Hall.tellAllAgain();
        }
        Due.begin("");
        for (int promise = first; promise <= last; promise++) {
            Due.is("cases of promise " + promise, promises.contains(promise) ? 1 : 0, 1);
        }
        System.out.println(cases.size() + " cases of promises " + first + " to " + last);
        Due.end();
    }

    private static void invoke(Method m) {
        try {
            m.invoke(null);
        } catch (InvocationTargetException e) {
            e.getCause().printStackTrace(System.out);
            Due.is("it threw " + e.getCause(), 1, 0);
        } catch (IllegalAccessException e) {
            throw new IllegalStateException(m.getName(), e);
        }
    }

    static void is(String what, long got, long want) {
        Due.is(what, got, want);
    }

    /** The same answer is due to each of the numbers. */
    static void each(String what, int want, IntUnaryOperator call, int... numbers) {
        for (int n : numbers) Due.is(what + " " + n, call.applyAsInt(n), want);
    }

    /** The first numbers that are not allowed on both sides, and the least and the greatest of all. */
    static int[] beyond(int least, int most) {
        return new int[] {least - 1, most + 1, LEAST, MOST};
    }

    static String times(String part, int n) {
        return part.repeat(n);
    }

    /** Of one part n times, with another between. */
    static String row(String part, int n, String between) {
        return String.join(between, java.util.Collections.nCopies(n, part));
    }
}
