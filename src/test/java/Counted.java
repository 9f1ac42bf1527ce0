import java.lang.reflect.InvocationTargetException;
import java.lang.reflect.Method;
import java.util.List;

/** A new object, asked by steps, and no oftener than the document promises answers. */
final class Counted {
    private static final int MOST_CALLS = 512;

    private final MuseumTill till = new MuseumTill();
    private int calls = 0;

    int calls() {
        return calls;
    }

    /** The answer, or "throws" and the exception's name without its end. */
    String answer(Step step) {
        return step.name.equals(Step.BALANCE) ? balance() : call(step.name, step.arguments);
    }

    String answer(String name, Object... arguments) {
        return answer(Step.asking(name, arguments));
    }

    private String balance() {
        int takings = Integer.parseInt(call("takings", List.of()));
        return Integer.toString(takings - Integer.parseInt(call("held", List.of())));
    }

    private String call(String name, List<String> arguments) {
        calls++;
        if (calls > MOST_CALLS) {
            throw new IllegalStateException("a test that calls one object oftener than " + MOST_CALLS + " times");
        }
        Method method = method(name);
        Class<?>[] types = method.getParameterTypes();
        Object[] values = new Object[types.length];
        for (int i = 0; i < types.length; i++) {
            String text = arguments.get(i);
            values[i] = types[i] == int.class ? (Object) Integer.valueOf(text) : (Object) Boolean.valueOf(text);
        }
        try {
            return method.invoke(till, values).toString();
        } catch (InvocationTargetException e) {
            return thrown(e.getCause());
        } catch (IllegalAccessException e) {
            throw new IllegalStateException(name + " is not public", e);
        }
    }

    private static Method method(String name) {
        for (Method method : MuseumTill.class.getMethods()) {
            if (method.getName().equals(name)) {
                return method;
            }
        }
        throw new IllegalArgumentException("no such method: " + name);
    }

    private static String thrown(Throwable e) {
        String text = "throws " + e.getClass().getSimpleName().replace("Exception", "");
        return Check.isThrownByTheTill(e) ? text : "by the machine or the library " + text;
    }
}
