import java.util.NoSuchElementException;
import java.util.Set;

/** Counts what a test finds and prints every answer that is not the one that is due. */
final class Checks {

    interface Call {
        Object answer();
    }

    static final Class<?> INDEX = IndexOutOfBoundsException.class;
    static final Class<?> ARGUMENT = IllegalArgumentException.class;
    static final Class<?> STATE = IllegalStateException.class;
    static final Class<?> ELEMENT = NoSuchElementException.class;
    static final Class<?> ARITHMETIC = ArithmeticException.class;

    private static final Set<String> HELPERS = Set.of("Checks", "Promises", "Look");

    private static int passed = 0;
    private static int failed = 0;
    private static String part = "";

    private Checks() {
    }

    static void begin(String name) {
        part = name;
    }

    static void due(Object want, Object got) {
        if (want.equals(got)) {
            passed++;
        } else {
            failed++;
            StackTraceElement place = placeOfCheck();
            System.out.println(part + ", " + place.getFileName() + ":" + place.getLineNumber()
                    + ": answered " + got + ", due is " + want);
        }
    }

    /** The answer as a text, or the simple name of just the exception that the call throws, none above or below it. */
    static String outcome(Call call) {
        try {
            return String.valueOf(call.answer());
        } catch (RuntimeException e) {
            return e.getClass().getSimpleName();
        }
    }

    static void end() {
        System.out.println(passed + " checks passed, " + failed + " failed");
        if (failed != 0 || passed == 0) {
            System.exit(1);
        }
    }

    private static StackTraceElement placeOfCheck() {
        StackTraceElement[] trace = new Throwable().getStackTrace();
        int index = 0;
        while (index + 1 < trace.length && HELPERS.contains(trace[index].getClassName())) {
            index++;
        }
        return trace[index];
    }
}
