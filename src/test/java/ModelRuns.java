import java.lang.reflect.InvocationTargetException;
import java.lang.reflect.Method;
import java.lang.reflect.Modifier;
import java.util.ArrayList;
import java.util.Arrays;
import java.util.Comparator;
import java.util.List;
import java.util.Set;
import java.util.TreeSet;

/** All promises at once: long runs of mixed calls, answered by the class and by ModelNavy. The same runs each time. */
public final class ModelRuns {
    private static final int RUNS = 3000;
    private static final int MOST_CALLS = 512;
    private static final int CALLS_THAT_ONLY_ASK = 120;
    private static final Set<String> CHANGING = Set.of("appoint", "promote", "transfer", "dismiss", "issue",
            "passHours", "define", "erase", "feed", "runCommands", "writeCommand", "undo", "save", "restore");
    private static final int[] EXTREMES =
            {Integer.MIN_VALUE, Integer.MAX_VALUE, -1, -2, 12, 13, 60, 100, 101, 256, 1 << 16};
    private static final String[] FAVOURITES = {"appoint", "promote", "transfer", "issue", "define", "writeCommand"};

    private static long seed;
    private static int wrong;
    private static final Set<String> outcomes = new TreeSet<>();

    private ModelRuns() {
    }

    private static int below(int bound) {
        seed = seed * 6364136223846793005L + 1442695040888963407L;
        return (int) ((seed >>> 33) % bound);
    }

    private static List<Method> methods() {
        List<Method> all = new ArrayList<>();
        for (Method method : CommandChain.class.getDeclaredMethods()) {
            if (Modifier.isPublic(method.getModifiers())) {
                all.add(method);
            }
        }
        all.sort(Comparator.comparing(Method::getName));
        return all;
    }

    /** The answer, or the name of the exception, told apart from one of the machine's own. */
    static Object outcome(Object on, Method method, Object[] arguments) throws IllegalAccessException {
        try {
            return method.invoke(on, arguments);
        } catch (InvocationTargetException e) {
            Throwable cause = e.getCause();
            boolean own = cause.getStackTrace()[0].getClassName().startsWith("CommandChain");
            String thrown = cause.getClass().getSimpleName();
            return on instanceof ModelNavy || own ? thrown : "the machine's " + thrown;
        }
    }

    private static void same(int run, int call, Object x, Object model, Method method, Object[] arguments)
            throws ReflectiveOperationException {
        Method other = ModelNavy.class.getMethod(method.getName(), method.getParameterTypes());
        Object got = outcome(x, method, arguments);
        Object want = outcome(model, other, arguments);
        outcomes.add(method.getName() + (want instanceof String ? " " + want : ""));
        if (!got.equals(want)) {
            wrong++;
            if (wrong <= 20) {
                System.out.println("run " + run + ", call " + call + ": " + method.getName()
                        + Arrays.toString(arguments) + " answered " + got + ", the model " + want);
            }
        }
    }

    private static Object[] arguments(Method method, int appointed) {
        Class<?>[] types = method.getParameterTypes();
        Object[] arguments = new Object[types.length];
        for (int i = 0; i < types.length; i++) {
            arguments[i] = types[i] == char.class
                    ? (Object) letter() : (Object) number(method.getName(), i, appointed);
        }
        return arguments;
    }

    private static char letter() {
        if (below(30) == 0) {
            return (char) below(65536);
        }
        return "abcdefz`{".charAt(below(below(3) == 0 ? 9 : 6));
    }

    private static int number(String name, int i, int appointed) {
        if (below(60) == 0) {
            return EXTREMES[below(EXTREMES.length)];
        }
        boolean severity = (name.equals("issue") || name.equals("firstRefusal")) && i == 2;
        if (severity || name.equals("appoint") && i == 2) {
            return below(2) == 0 ? below(103) - 1 : below(4) * 33;
        }
        return switch (name) {
            case "appoint" -> i == 0 ? below(appointed + (below(4) == 0 ? 2 : 0)) : below(10);
            case "passHours" -> below(3) == 0 ? below(27) - 1 : 1 + below(2);
            case "define" -> below(5) == 0 ? below(102) - 1 : below(3);
            case "flagsWith" -> below(4);
            case "holder", "target", "severity" -> below(8) - 1;
            case "outputChar" -> below(40) - 1;
            default -> below(appointed + 2) - (below(20) == 0 ? 1 : 0);
        };
    }

    private static String command() {
        int a = below(below(3) == 0 ? 14 : 4);
        int b = below(below(3) == 0 ? 14 : 4);
        int of100 = below(4) == 0 ? below(130) : below(101);
        return switch (below(9)) {
            case 0, 1 -> "add " + a + " " + below(10) + " " + of100;
            case 2 -> "move " + a + " " + b;
            case 3 -> "fire " + (below(3) == 0 ? "0" : "") + below(10);
            case 4, 5 -> "order " + a + " " + b + " " + of100;
            case 6 -> "flag " + letter() + letter() + " " + below(100);
            case 7 -> "wait " + below(27);
            default -> "wait";
        };
    }

    private static String text() {
        StringBuilder text = new StringBuilder(command());
        while (below(3) != 0) {
            text.append(';').append(command());
        }
        if (below(3) == 0) {
            int at = below(text.length());
            switch (below(4)) {
                case 0 -> text.deleteCharAt(at);
                case 1 -> text.insert(at, " ;019azx".charAt(below(8)));
                case 2 -> text.setCharAt(at, " ;019aflrdiw".charAt(below(12)));
                default -> text.setLength(at);
            }
        }
        return text.toString();
    }

    private static void oneRun(int run, List<Method> all, Method feed, Method runCommands)
            throws ReflectiveOperationException {
        seed = run * 7919L + 17;
        CommandChain x = new CommandChain();
        ModelNavy model = new ModelNavy();
        int style = below(4);
        String favourite = FAVOURITES[below(FAVOURITES.length)];
        int call = 0;
        while (call < MOST_CALLS - CALLS_THAT_ONLY_ASK) {
            String text = style == 3 && below(8) == 0 || below(40) == 0 ? text() : "";
            for (int i = 0; i < text.length() && call < MOST_CALLS - CALLS_THAT_ONLY_ASK; i++) {
                same(run, call++, x, model, feed, new Object[] {text.charAt(i)});
            }
            Method method = text.isEmpty() ? nextMethod(all, style, favourite) : runCommands;
            same(run, call++, x, model, method, arguments(method, model.appointedCount()));
        }
        while (call < MOST_CALLS) {
            Method method = all.get(below(all.size()));
            if (!CHANGING.contains(method.getName())) {
                same(run, call++, x, model, method, arguments(method, model.appointedCount()));
            }
        }
    }

    private static Method nextMethod(List<Method> all, int style, String favourite) {
        Method method = all.get(below(all.size()));
        boolean wanted = below(4) == 0;
        while (wanted && !method.getName().equals(favourite)
                || !wanted && !CHANGING.contains(method.getName()) && below(8) != 0
                || isTooOften(method.getName(), style)) {
            method = all.get(below(all.size()));
        }
        return method;
    }

    /** Some styles of runs seldom take back what was built, so that they come to the limits of the document. */
    private static boolean isTooOften(String name, int style) {
        return switch (name) {
            case "dismiss", "undo", "restore", "erase", "passHours" -> below(1 << (2 * style)) != 0;
            case "feed", "runCommands" -> below(10) != 0;
            default -> false;
        };
    }

    public static void main(String[] args) throws ReflectiveOperationException {
        List<Method> all = methods();
        Method feed = CommandChain.class.getMethod("feed", char.class);
        Method runCommands = CommandChain.class.getMethod("runCommands");
        for (int run = 0; run < RUNS; run++) {
            oneRun(run, all, feed, runCommands);
        }
        System.out.println("ModelRuns: " + RUNS + " runs, " + outcomes.size() + " kinds of answers, " + wrong
                + " wrong");
        if (args.length > 0) {
            System.out.println(outcomes);
        }
        if (wrong != 0 || outcomes.size() < 111) {
            System.exit(1);
        }
    }
}
