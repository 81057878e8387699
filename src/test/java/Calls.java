import java.lang.reflect.InvocationTargetException;
import java.lang.reflect.Method;

/** Calls a method of the face by its name, so that tests can tell calls in tables; a boolean counts 1 or 0. */
final class Calls {
    private Calls() {
    }

    static Object call(OvertureDesk desk, String name, int... args) {
        Method method = named(name);
        Object[] given = new Object[args.length];
        for (int i = 0; i < args.length; i++) {
            boolean isFlag = method.getParameterTypes()[i] == boolean.class;
            given[i] = isFlag ? (Object) (args[i] != 0) : (Object) args[i];
        }
        try {
            return method.invoke(desk, given);
        } catch (InvocationTargetException thrown) {
            throw (RuntimeException) thrown.getCause();
        } catch (IllegalAccessException thrown) {
            throw new AssertionError(thrown);
        }
    }

    private static Method named(String name) {
        for (Method method : OvertureDesk.class.getMethods()) {
            if (method.getDeclaringClass() == OvertureDesk.class && method.getName().equals(name)) {
                return method;
            }
        }
        throw new AssertionError("no method " + name);
    }

    static String text(String name, int... args) {
        StringBuilder text = new StringBuilder(name).append('(');
        for (int i = 0; i < args.length; i++) {
            text.append(i > 0 ? ", " : "").append(args[i]);
        }
        return text.append(')').toString();
    }
}
