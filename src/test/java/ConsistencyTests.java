import java.lang.reflect.Array;
import java.lang.reflect.Field;

/**
 * Promise 43, where it is broken: no calls of the face lead to a state that isn't consistent, so the rows that hold
 * the officers are changed behind the object's back. Only this test knows how the state is held.
 */
public final class ConsistencyTests {
    private static final String WORDS = "both ways to find depths and sizes of commands agree for all officers, and"
            + " each superior has a greater rank.";

    private ConsistencyTests() {
    }

    /** 0(1(2)): ranks 9 5 4. */
    private static CommandChain sample() {
        CommandChain x = new CommandChain();
        x.appoint(0, 5, 50);
        x.appoint(1, 4, 50);
        return x;
    }

    private static Object part(Object whole, String name) throws ReflectiveOperationException {
        Field field = whole.getClass().getDeclaredField(name);
        field.setAccessible(true);
        return field.get(whole);
    }

    private static Object row(CommandChain x, String name) throws ReflectiveOperationException {
        return part(part(part(x, "now"), "officers"), name);
    }

    private static void consistent(CommandChain x, String how, boolean due) {
        Run.same("43", WORDS + " (" + how + ")", String.valueOf(x.isConsistent()), String.valueOf(due));
    }

    public static void main(String[] args) throws ReflectiveOperationException {
        consistent(sample(), "as it is made by calls", true);

        CommandChain equalRanks = sample();
        Array.setInt(row(equalRanks, "rank"), 2, 5);
        consistent(equalRanks, "the superior's rank is the same", false);

        CommandChain lowerSuperior = sample();
        Array.setInt(row(lowerSuperior, "rank"), 1, 3);
        consistent(lowerSuperior, "the superior's rank is lower", false);

        CommandChain cutOff = sample();
        Array.setInt(row(cutOff, "superior"), 2, -1);
        consistent(cutOff, "the search from the top doesn't find an officer", false);

        CommandChain dismissedBetween = sample();
        Array.setBoolean(row(dismissedBetween, "serving"), 1, false);
        consistent(dismissedBetween, "only going down counts a dismissed one", false);

        Run.end("ConsistencyTests");
    }
}
