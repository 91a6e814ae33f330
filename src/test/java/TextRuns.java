import java.lang.reflect.Method;
import java.util.Set;
import java.util.TreeSet;

/**
 * Promises 45 to 47, the term Commands: every text that one character more, less or changed makes of a well-formed
 * one, and every beginning of it, answered by the class and by ModelNavy.
 */
public final class TextRuns {
    /** Each command with the fewest and the most digits, alone and beside another one. */
    private static final String[] WELL_FORMED = {"add 0 8 5", "add 00 1 100", "move 2 1", "move 02 01", "fire 1",
            "fire 01", "order 0 2 5", "order 00 02 050", "flag az 5", "flag zz 99", "wait", "wait 1", "wait 24",
            "wait;wait;wait", "wait 2;fire 1", "flag qz 0;add 0 2 3", "move 2 0;order 1 2 7", "order 0 1 60;move 1 2"};
    private static final char[] SIGNS = " ;,0123456789-/:abdefgilmnortvwxz`{AFWZ~\0\t\u00a0\u00e9\u0661".toCharArray();

    private TextRuns() {
    }

    private static Set<String> texts() {
        Set<String> texts = new TreeSet<>();
        for (String text : WELL_FORMED) {
            for (int at = 0; at <= text.length(); at++) {
                String begin = text.substring(0, at);
                texts.add(begin);
                for (char sign : SIGNS) {
                    texts.add(begin + sign + text.substring(at));
                    texts.add(begin + sign + text.substring(Math.min(text.length(), at + 1)));
                }
                texts.add(begin + text.substring(Math.min(text.length(), at + 1)));
            }
        }
        return texts;
    }

    /** What the text does to a navy 0(1(2)), and what is told of it. */
    private static String told(Object navy, String text) throws ReflectiveOperationException {
        call(navy, "appoint", 0, 5, 50);
        call(navy, "appoint", 1, 4, 40);
        for (char character : text.toCharArray()) {
            call(navy, "feed", character);
        }
        StringBuilder told = new StringBuilder();
        for (String name : new String[] {"runCommands", "errorPosition", "failedCommand", "hour", "flagCount",
                "orderCount", "officerCount", "appointedCount", "undoCount"}) {
            told.append(name).append(' ').append(call(navy, name)).append(", ");
        }
        for (int officer = 0; officer < 4; officer++) {
            told.append(call(navy, "superior", officer)).append(' ');
        }
        return told.toString();
    }

    private static Object call(Object navy, String name, Object... arguments) throws ReflectiveOperationException {
        Method method = navy.getClass().getMethod(name, Subject.parameters(name));
        return ModelRuns.outcome(navy, method, arguments);
    }

    public static void main(String[] args) throws ReflectiveOperationException {
        int wrong = 0;
        int malformed = 0;
        Set<String> texts = texts();
        for (String text : texts) {
            String got = told(new CommandChain(), text);
            String due = told(new ModelNavy(), text);
            malformed += due.startsWith("runCommands IllegalArgumentException") ? 1 : 0;
            if (!got.equals(due)) {
                wrong++;
                System.out.println("\"" + text + "\" answered " + got + ", due is " + due);
            }
        }
        System.out.println("TextRuns: " + texts.size() + " texts, " + malformed + " malformed, " + wrong + " wrong");
        if (wrong != 0 || malformed == 0 || malformed == texts.size()) {
            System.exit(1);
        }
    }
}
