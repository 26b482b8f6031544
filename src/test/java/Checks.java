import java.util.NoSuchElementException;

/** Counts what a test finds and prints every answer that is not the one that is due. */
final class Checks {

    interface Call {
        Object answer();
    }

    static final Class<?> INDEX = IndexOutOfBoundsException.class;
    static final Class<?> ARGUMENT = IllegalArgumentException.class;
    static final Class<?> STATE = IllegalStateException.class;
    static final Class<?> ELEMENT = NoSuchElementException.class;
    static final Class<?> ARITHMETIC = ArithmeticException.class;

    private static int passed = 0;
    private static int failed = 0;
    private static String part = "";

    private Checks() {
    }

    static void begin(String name) {
        part = name;
    }

    static void due(Object want, Object got) {
        if (want.equals(got)) {
            passed++;
        } else {
            failed++;
            StackTraceElement place = placeOfCheck();
            System.out.println(part + ", " + place.getFileName() + ":" + place.getLineNumber()
                    + ": answered " + got + ", due is " + want);
        }
    }

    /** The call must throw just this exception (none of its subclasses) and change nothing that can be seen. */
    static void dueThrow(Class<?> want, RibbonQuarry quarry, Call call) {
        String before = Look.at(quarry);
        due(want.getSimpleName(), outcome(call));
        due(before, Look.at(quarry));
    }

    /** The answer as a text, or the simple name of the exception that the call throws. */
    static String outcome(Call call) {
        try {
            return String.valueOf(call.answer());
        } catch (RuntimeException e) {
            return e.getClass().getSimpleName();
        }
    }

    static void end() {
        System.out.println(passed + " checks passed, " + failed + " failed");
        if (failed != 0 || passed == 0) {
            System.exit(1);
        }
    }

    private static StackTraceElement placeOfCheck() {
        StackTraceElement[] trace = new Throwable().getStackTrace();
        int index = 0;
        while (index + 1 < trace.length && isOfTheHelpers(trace[index].getClassName())) {
            index++;
        }
        return trace[index];
    }

    private static boolean isOfTheHelpers(String name) {
        return name.equals("Checks") || name.equals("Promises");
    }
}
