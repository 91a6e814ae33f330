import java.lang.reflect.InvocationTargetException;
import java.lang.reflect.Method;
import java.lang.reflect.Modifier;
import java.util.HashMap;
import java.util.Map;

/** A new CommandChain whose methods are called by name and answer texts, as often as the document allows. */
final class Subject {
    static final int MOST_CALLS = 512;
    private static final Map<String, Method> METHODS = publicMethods();

    private final CommandChain object = new CommandChain();
    private int calls;

    private static Map<String, Method> publicMethods() {
        Map<String, Method> methods = new HashMap<>();
        for (Method method : CommandChain.class.getDeclaredMethods()) {
            if (Modifier.isPublic(method.getModifiers())) {
                methods.put(method.getName(), method);
            }
        }
        return methods;
    }

    static Class<?>[] parameters(String name) {
        Method method = METHODS.get(name);
        if (method == null) {
            throw new IllegalArgumentException("the face has no method " + name);
        }
        return method.getParameterTypes();
    }

    /** The answer as a text, or "throws." and the name of the exception. */
    String call(String name, Object... arguments) {
        calls++;
        if (calls > MOST_CALLS) {
            throw new IllegalStateException("a test calls one object more than " + MOST_CALLS + " times");
        }
        try {
            return String.valueOf(METHODS.get(name).invoke(object, arguments));
        } catch (InvocationTargetException e) {
            return thrown(e.getCause());
        } catch (IllegalAccessException e) {
            throw new IllegalStateException(e);
        }
    }

    String feedAll(String text) {
        String length = "0";
        for (int i = 0; i < text.length(); i++) {
            length = call("feed", text.charAt(i));
        }
        return length;
    }

    String runText(String text) {
        String fed = feedAll(text);
        return failed(fed) ? fed : call("runCommands");
    }

    /** The output that writeCommand left, read from its first character to the one before the first refused one. */
    String output() {
        StringBuilder output = new StringBuilder();
        String next = call("outputChar", 0);
        while (!failed(next)) {
            output.append(next);
            next = call("outputChar", output.length());
        }
        return output.toString();
    }

    String writeAndRead(int officer) {
        String length = call("writeCommand", officer);
        if (failed(length)) {
            return length;
        }
        String output = output();
        return length.equals(String.valueOf(output.length())) ? output : "length " + length + " of " + output;
    }

    static boolean failed(String answer) {
        return answer.startsWith("throws.");
    }

    /** What the machine throws is told apart from what the class throws by a throw statement of its own. */
    private static String thrown(Throwable cause) {
        StackTraceElement[] trace = cause.getStackTrace();
        boolean own = trace.length > 0 && trace[0].getClassName().startsWith("CommandChain")
                && !"/ by zero".equals(cause.getMessage());
        return "throws." + (own ? "" : "machine.") + cause.getClass().getSimpleName();
    }
}
