import java.lang.reflect.InvocationTargetException;
import java.lang.reflect.Method;
import java.lang.reflect.Modifier;
import java.util.Arrays;
import java.util.Comparator;

/** Counts and prints the answers of one test class that are not the ones that are due. */
final class Due {
    private int wrong;
    private int looked;
    private String about = "";

    /**
     * Runs the tests of a class and ends the program. Every method that is not private and takes
     * nothing but a Due is a test, so that none can be forgotten in a list.
     */
    static void runAll(Class<?> tests) {
        Due due = new Due();
        Method[] methods = tests.getDeclaredMethods();
        Arrays.sort(methods, Comparator.comparing(Method::getName));
        int count = 0;
        for (Method method : methods) {
            if (isTest(method)) {
                due.run(method);
                count++;
            }
        }
        System.out.println(count + " tests");
        due.end();
    }

    private static boolean isTest(Method method) {
        boolean takesDue = Arrays.equals(method.getParameterTypes(), new Class<?>[] {Due.class});
        return takesDue && !Modifier.isPrivate(method.getModifiers());
    }

    private void run(Method test) {
        about = test.getDeclaringClass().getName() + "." + test.getName();
        int before = looked;
        try {
            test.invoke(null, this);
        } catch (InvocationTargetException e) {
            fail("the test ended with " + e.getCause());
        } catch (IllegalAccessException e) {
            fail("the test can't be run");
        }
        if (looked == before) {
            fail("the test looked at no answer");
        }
    }

    private void fail(String text) {
        wrong++;
        System.out.println(about + ": " + text);
    }

    /** What the next answers belong to, for the message. */
    void about(String text) {
        about = text;
    }

    void is(String call, long got, long want) {
        looked++;
        if (got != want) {
            fail(call + " answered " + got + ", due is " + want);
        }
    }

    void is(String call, boolean got, boolean want) {
        is(call, got ? 1 : 0, want ? 1 : 0);
    }

    /** What the tables show is still the same (see Calls.shown). */
    void same(String text, String now, String before) {
        looked++;
        if (!now.equals(before)) {
            fail(text + ": the tables were " + before + " and are " + now);
        }
    }

    /** The table has just these bytes. */
    void sameBytes(RefStack x, int table, int[] want) {
        is("size(" + table + ")", x.size(table), want.length);
        for (int k = 0; k < want.length; k++) {
            is("byteAt(" + table + ", " + k + ")", x.byteAt(table, k), want[k]);
        }
    }

    /** Ends the program with exit code 1 if some answer was wrong. */
    void end() {
        System.out.println(looked + " answers looked at, " + wrong + " not as due");
        if (wrong != 0 || looked == 0) {
            System.exit(1);
        }
    }
}
