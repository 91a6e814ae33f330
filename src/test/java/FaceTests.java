import java.lang.reflect.Constructor;
import java.lang.reflect.Executable;
import java.lang.reflect.Field;
import java.lang.reflect.Method;
import java.lang.reflect.Modifier;
import java.util.Arrays;
import java.util.List;
import java.util.Set;
import java.util.TreeSet;
import java.util.stream.Collectors;
import java.util.stream.Stream;

/** The public face: the class has just the members that the document lists, with the exceptions that it lists. */
public final class FaceTests {
    private static final String FACE = """
            public CommandChain();
            public int appoint(int superior, int rank, int loyalty) throws IndexOutOfBoundsException, IllegalArgumentException, IllegalStateException;
            public int promote(int officer) throws IndexOutOfBoundsException, IllegalStateException;
            public int transfer(int officer, int superior) throws IndexOutOfBoundsException, IllegalArgumentException, UnsupportedOperationException, IllegalStateException;
            public int dismiss(int officer) throws IndexOutOfBoundsException, IllegalArgumentException;
            public int issue(int from, int to, int severity) throws IndexOutOfBoundsException, IllegalArgumentException, IllegalStateException, UnsupportedOperationException;
            public int passHours(int hours) throws IllegalArgumentException;
            public int define(char first, char second, int meaning) throws IllegalArgumentException, IllegalStateException;
            public int erase(char first, char second) throws IllegalArgumentException, NoSuchElementException;
            public int hour();
            public int officerCount();
            public int appointedCount();
            public boolean isInNavy(int officer);
            public int rank(int officer) throws IndexOutOfBoundsException;
            public int loyalty(int officer) throws IndexOutOfBoundsException;
            public int refusals(int officer) throws IndexOutOfBoundsException;
            public int superior(int officer) throws IndexOutOfBoundsException, NoSuchElementException;
            public int subordinates(int officer) throws IndexOutOfBoundsException;
            public int depth(int officer) throws IndexOutOfBoundsException;
            public int depthFromTop(int officer) throws IndexOutOfBoundsException;
            public int commandSize(int officer) throws IndexOutOfBoundsException;
            public int commandSizeByCounting(int officer) throws IndexOutOfBoundsException;
            public boolean isAbove(int first, int second) throws IndexOutOfBoundsException;
            public int commonSuperior(int first, int second) throws IndexOutOfBoundsException;
            public int greatestDepth();
            public int hoursFor(int from, int to) throws IndexOutOfBoundsException, IllegalStateException;
            public int greatestSeverity(int from, int to) throws IndexOutOfBoundsException, IllegalStateException;
            public int greatestSeverityByTrial(int from, int to) throws IndexOutOfBoundsException, IllegalStateException;
            public int firstRefusal(int from, int to, int severity) throws IndexOutOfBoundsException, IllegalArgumentException, IllegalStateException, NoSuchElementException;
            public int orderCount();
            public int holder(int order) throws IndexOutOfBoundsException;
            public int target(int order) throws IndexOutOfBoundsException;
            public int severity(int order) throws IndexOutOfBoundsException;
            public int executedOrders();
            public int refusedOrders();
            public int lostOrders();
            public int flagCount();
            public int meaning(char first, char second) throws IllegalArgumentException, NoSuchElementException;
            public int flagsWith(int meaning) throws IllegalArgumentException;
            public int officerByRank(int place) throws NoSuchElementException;
            public double meanLoyalty();
            public float executedShare() throws ArithmeticException;
            public boolean isConsistent();
            public int feed(char character) throws IllegalStateException;
            public int runCommands() throws IllegalArgumentException, UnsupportedOperationException;
            public int errorPosition() throws NoSuchElementException;
            public int failedCommand() throws NoSuchElementException;
            public int writeCommand(int officer) throws IndexOutOfBoundsException;
            public char outputChar(int index) throws IndexOutOfBoundsException;
            public int undoCount();
            public int undo() throws IllegalStateException;
            public int save();
            public int restore() throws IllegalStateException;
            """;

    private FaceTests() {
    }

    private static Set<String> due() {
        return FACE.lines().map(line -> line.replaceAll("(int|char) \\w+([,)])", "$1$2").replace(";", ""))
                .collect(Collectors.toCollection(TreeSet::new));
    }

    /** Each member of the class that is not private, as a line of the document without the parameters' names. */
    private static Set<String> found() {
        Set<String> found = new TreeSet<>();
        for (Constructor<?> constructor : CommandChain.class.getDeclaredConstructors()) {
            found.add(line("CommandChain", constructor));
        }
        for (Method method : CommandChain.class.getDeclaredMethods()) {
            if (!Modifier.isPrivate(method.getModifiers())) {
                found.add(line(method.getReturnType() + " " + method.getName(), method));
            }
        }
        for (Field field : CommandChain.class.getDeclaredFields()) {
            if (!Modifier.isPrivate(field.getModifiers())) {
                found.add(field.toString());
            }
        }
        return found;
    }

    private static String line(String name, Executable member) {
        String thrown = names(member.getExceptionTypes());
        return Modifier.toString(member.getModifiers()) + " " + name + "(" + names(member.getParameterTypes()) + ")"
                + (thrown.isEmpty() ? "" : " throws " + thrown);
    }

    private static String names(Class<?>[] types) {
        return Stream.of(types).map(Class::getSimpleName).collect(Collectors.joining(", "));
    }

    private static Set<String> privateNamesOfPublicMethods() {
        List<Method> methods = Arrays.asList(CommandChain.class.getDeclaredMethods());
        Set<String> open = methods.stream().filter(m -> Modifier.isPublic(m.getModifiers())).map(Method::getName)
                .collect(Collectors.toSet());
        return methods.stream().filter(m -> Modifier.isPrivate(m.getModifiers()) && open.contains(m.getName()))
                .map(Method::getName).collect(Collectors.toSet());
    }

    public static void main(String[] args) {
        Run.same("The public face", "public final class CommandChain", Modifier.toString(CommandChain.class.getModifiers()),
                "public final");
        Run.same("The public face", "(all members that are not private)", String.join("\n", found()),
                String.join("\n", due()));
        Run.same("The public face", "(no private method bears the name of a public one)",
                privateNamesOfPublicMethods().toString(), "[]");
        Run.end("FaceTests");
    }
}
