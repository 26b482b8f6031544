import java.lang.reflect.InvocationTargetException;
import java.lang.reflect.Method;
import java.lang.reflect.Modifier;
import java.nio.file.Files;
import java.nio.file.Path;
import java.util.ArrayList;
import java.util.Arrays;
import java.util.Comparator;
import java.util.List;
import java.util.Random;

/**
 * Any calls with any arguments in any state; the seeds are fixed. What a call
 * throws must be of a class that its head lists, and thrown by the class itself:
 * the machine's own exceptions bear texts that do not stand in the source.
 */
public final class AnyCallTest {

    private static final int RUNS = 1500;
    private static final int CALLS = 512;
    private static final int[] ODD = {-1, 8, 30, 59, 60, 61, 99, 100, Integer.MIN_VALUE, Integer.MAX_VALUE, 1 << 29,
        71582789, -71582789, (1 << 29) + 7};
    private static final String SIGNS = "0123456789abcdefghijoprtuwy ;@=><-~";
    /** Each run makes many calls of one of these, so that reels, text and changes fill up. */
    private static final String[] OFTEN = {"append", "insert", "type", "cut", "undo"};

    private final List<Method> face = new ArrayList<>();
    private final Random dice = new Random(20);
    private final String source;

    private AnyCallTest(String source) {
        this.source = source;
        for (Method method : RibbonQuarry.class.getDeclaredMethods()) {
            if (Modifier.isPublic(method.getModifiers())) {
                face.add(method);
            }
        }
        face.sort(Comparator.comparing(Method::getName));
    }

    public static void main(String[] args) throws Exception {
        AnyCallTest test = new AnyCallTest(Files.readString(Path.of(args[0])));
        for (int run = 0; run < RUNS; run++) {
            Checks.begin("run " + run);
            test.call(OFTEN[run % OFTEN.length]);
        }
        Checks.end();
    }

    private void call(String often) throws IllegalAccessException {
        RibbonQuarry x = new RibbonQuarry();
        for (int call = 0; call < CALLS; call++) {
            Method method = face.get(dice.nextInt(face.size()));
            while (dice.nextInt(3) == 0 && !method.getName().equals(often)) {
                method = named(often);
            }
            Object[] arguments = argumentsOf(method);
            String said = method.getName() + Arrays.toString(arguments) + " ";
            try {
                Checks.due(true, method.invoke(x, arguments) != null);
            } catch (InvocationTargetException e) {
                Checks.due(said + "as written", said + judge(method, e.getCause()));
            }
        }
    }

    private Method named(String name) {
        return face.stream().filter(method -> method.getName().equals(name)).findFirst().orElseThrow();
    }

    private Object[] argumentsOf(Method method) {
        Object[] arguments = new Object[method.getParameterCount()];
        for (int index = 0; index < arguments.length; index++) {
            arguments[index] = method.getParameterTypes()[index] == char.class ? (Object) sign() : (Object) number();
        }
        return arguments;
    }

    private char sign() {
        return dice.nextInt(20) == 0 ? (char) dice.nextInt(0x10000) : SIGNS.charAt(dice.nextInt(SIGNS.length()));
    }

    private int number() {
        return dice.nextInt(8) == 0 ? ODD[dice.nextInt(ODD.length)] : dice.nextInt(dice.nextBoolean() ? 4 : 9);
    }

    private String judge(Method method, Throwable thrown) {
        boolean listed = Arrays.asList(method.getExceptionTypes()).contains(thrown.getClass());
        // An exception that the machine throws again and again comes without a trace at last.
        StackTraceElement[] trace = thrown.getStackTrace();
        boolean ours = trace.length > 0 && trace[0].getClassName().equals("RibbonQuarry");
        boolean written = source.contains("throw new " + thrown.getClass().getSimpleName() + "(\""
                + thrown.getMessage() + "\");");
        return listed && ours && written ? "as written" : thrown.toString();
    }
}
