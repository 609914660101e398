import java.lang.reflect.InvocationTargetException;
import java.lang.reflect.Method;
import java.util.Arrays;

/** An object and a Model that are asked the same calls, from new on. */
final class Pair {
    // The document promises nothing beyond this many calls on one object.
    private static final int CALLS = 512;

    private final SharedLeaves object = new SharedLeaves();
    private final Model model = new Model();
    private final Checks checks;
    private final String name;
    private int calls = 0;
    private boolean alike = true;

    Pair(Checks checks, String name) {
        this.checks = checks;
        this.name = name;
    }

    /** Asks both, and answers what the model answers: the name of the exception's class if it throws. */
    String ask(String method, int... arguments) {
        calls++;
        String want = answer(model, method, arguments);
        String got = answer(object, method, arguments);
        checks.due(name + ", call " + calls + ": " + method + Arrays.toString(arguments), got, want);
        alike = alike && got.equals(want);
        return want;
    }

    boolean isAlike() {
        return alike;
    }

    boolean hasCallsLeft(int wanted) {
        return calls + wanted <= CALLS;
    }

    /** The length by the model alone, to choose arguments by: it is no call on the object. */
    int lengthInModel(int a) {
        return model.length(a);
    }

    private static String answer(Object target, String method, int[] arguments) {
        Class<?>[] types = new Class<?>[arguments.length];
        Arrays.fill(types, int.class);
        try {
            Method called = target.getClass().getMethod(method, types);
            return String.valueOf(called.invoke(target, Arrays.stream(arguments).boxed().toArray()));
        } catch (InvocationTargetException e) {
            return e.getCause().getClass().getName();
        } catch (ReflectiveOperationException e) {
            return "no such method: " + e;
        }
    }
}
