import java.lang.reflect.InvocationTargetException;
import java.lang.reflect.Method;
import java.lang.reflect.Modifier;
import java.util.HashMap;
import java.util.Map;

/** An object of the class, called by the names of its methods; nothing is asked of it after its 512th call. */
final class Calls {
    private static final int PROMISED = 512;
    private static final Map<String, Method> METHODS = publicMethods();

    private final BrambleShift object = new BrambleShift();
    private int count = 0;

    /** Answers what the call answered, "nothing" for a void one, or "throws." and the exception's name. */
    Object answer(String name, Object... arguments) {
        count++;
        if (count > PROMISED) {
            throw new AssertionError("a test asks for more than the document promises: a call after the 512th");
        }
        Method method = METHODS.get(name);
        if (method == null) {
            throw new AssertionError("no method " + name);
        }
        try {
            Object answer = method.invoke(object, arguments);
            return answer == null ? "nothing" : answer;
        } catch (InvocationTargetException e) {
            return "throws." + e.getCause().getClass().getSimpleName();
        } catch (IllegalAccessException e) {
            throw new AssertionError(e);
        }
    }

    private static Map<String, Method> publicMethods() {
        Map<String, Method> methods = new HashMap<>();
        for (Method method : BrambleShift.class.getDeclaredMethods()) {
            if (Modifier.isPublic(method.getModifiers())) {
                methods.put(method.getName(), method);
            }
        }
        return methods;
    }
}
