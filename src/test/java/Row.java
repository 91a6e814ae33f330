import java.util.ArrayList;
import java.util.List;
import java.util.regex.Matcher;
import java.util.regex.Pattern;

/**
 * A call of a run, written as a line: "transfer(3, 2) = 4", "dismiss(0) throws.IllegalArgumentException", or
 * "wait()" where the answer plays no part. "3 x " before it makes the call three times. An argument is a number,
 * MIN or MAX (of int), 'c', or #65535 (a character by its number). Three calls stand for several: type(TEXT)
 * feeds a text, run(TEXT) feeds and runs it, write(OFFICER) writes a command and answers the output as a text.
 */
record Row(String text, String name, String words, Object[] arguments, String due) {
    private static final Pattern FORM =
            Pattern.compile("(?:(\\d+) x )?(\\w+)\\((.*?)\\)(?: = (.*)| (throws\\.\\w+))?");

    static List<Row> parse(String lines) {
        List<Row> rows = new ArrayList<>();
        for (String line : lines.split("\n")) {
            if (!line.isBlank() && !line.startsWith("//")) {
                addRows(rows, line);
            }
        }
        return rows;
    }

    private static void addRows(List<Row> rows, String line) {
        Matcher parts = FORM.matcher(line);
        if (!parts.matches()) {
            throw new IllegalArgumentException("not a row: " + line);
        }
        int times = parts.group(1) == null ? 1 : Integer.parseInt(parts.group(1));
        String due = parts.group(4) != null ? parts.group(4) : parts.group(5);
        String name = parts.group(2);
        String words = parts.group(3);
        Object[] arguments = isWhole(name) ? new Object[0] : values(name, words);
        for (int i = 0; i < times; i++) {
            rows.add(new Row(line, name, words, arguments, due));
        }
    }

    private static boolean isWhole(String name) {
        return name.equals("type") || name.equals("run");
    }

    private static Object[] values(String name, String words) {
        Class<?>[] types = Subject.parameters(name.equals("write") ? "writeCommand" : name);
        String[] texts = words.isEmpty() ? new String[0] : words.split(", ");
        if (texts.length != types.length) {
            throw new IllegalArgumentException(name + " takes " + types.length + " arguments, not (" + words + ")");
        }
        Object[] values = new Object[types.length];
        for (int i = 0; i < types.length; i++) {
            values[i] = types[i] == char.class ? (Object) character(texts[i]) : (Object) number(texts[i]);
        }
        return values;
    }

    private static char character(String text) {
        if (text.startsWith("#")) {
            return (char) Integer.parseInt(text.substring(1));
        }
        if (text.length() != 3) {
            throw new IllegalArgumentException("not a character: " + text);
        }
        return text.charAt(1);
    }

    private static int number(String text) {
        return switch (text) {
            case "MIN" -> Integer.MIN_VALUE;
            case "MAX" -> Integer.MAX_VALUE;
            default -> Integer.parseInt(text);
        };
    }

    String on(Subject subject) {
        return switch (name) {
            case "type" -> subject.feedAll(words);
            case "run" -> subject.runText(words);
            case "write" -> subject.writeAndRead((int) arguments[0]);
            default -> subject.call(name, arguments);
        };
    }

    boolean runsCommands() {
        return name.equals("run") || name.equals("runCommands");
    }
}
