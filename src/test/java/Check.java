import java.util.NoSuchElementException;

/** What all tests of the project share: checks that print what is wrong, and a picture of an object's state. */
final class Check {
    static final Class<? extends RuntimeException> INDEX = IndexOutOfBoundsException.class;
    static final Class<? extends RuntimeException> ARGUMENT = IllegalArgumentException.class;
    static final Class<? extends RuntimeException> STATE = IllegalStateException.class;
    static final Class<? extends RuntimeException> UNSUPPORTED = UnsupportedOperationException.class;
    static final Class<? extends RuntimeException> ELEMENT = NoSuchElementException.class;
    static final Class<? extends RuntimeException> ARITHMETIC = ArithmeticException.class;

    private static int wrong;
    private static int checks;

    interface Call {
        Object make();
    }

    private Check() {
    }

    static void is(String what, Object got, Object want) {
        checks++;
        if (!got.equals(want)) {
            wrong++;
            System.out.println(what + " answered " + got + ", due is " + want);
        }
    }

    /** Checks that a call throws just this exception by a throw statement of the class, and changes nothing. */
    static void fails(CommandChain x, String what, Class<? extends RuntimeException> want, Call call) {
        String before = picture(x);
        failsFreely(what, want, call);
        is("the state after " + what, picture(x), before);
    }

    static void failsFreely(String what, Class<? extends RuntimeException> want, Call call) {
        is(what, outcome(call), "throws " + want.getSimpleName());
    }

    /** The answer as a text, or the exception; one that the machine threw is told apart. */
    static String outcome(Call call) {
        try {
            return String.valueOf(call.make());
        } catch (RuntimeException e) {
            StackTraceElement[] trace = e.getStackTrace();
            boolean own = trace.length > 0 && trace[0].getClassName().startsWith("CommandChain")
                    && !e.getClass().getSimpleName().startsWith("Array")
                    && !(e instanceof NullPointerException);
            return (own ? "throws " : "MACHINE throws ") + e.getClass().getSimpleName();
        }
    }

    /** All that queries tell, the output included, in one text. */
    static String picture(CommandChain x) {
        StringBuilder all = new StringBuilder();
        all.append("hour ").append(x.hour()).append(" officers ").append(x.officerCount())
                .append('/').append(x.appointedCount()).append(" sums ").append(x.executedOrders())
                .append(',').append(x.refusedOrders()).append(',').append(x.lostOrders())
                .append(" undo ").append(x.undoCount()).append(" deepest ").append(x.greatestDepth())
                .append(" mean ").append(x.meanLoyalty()).append(" share ").append(outcome(x::executedShare))
                .append(" error ").append(outcome(x::errorPosition))
                .append(" failed ").append(outcome(x::failedCommand)).append('\n');
        for (int i = 0; i < 12; i++) {
            addOfficer(all, x, i);
        }
        for (int i = 0; i < x.orderCount(); i++) {
            all.append(" order ").append(x.holder(i)).append('>').append(x.target(i))
                    .append('@').append(x.severity(i));
        }
        all.append('\n');
        addFlags(all, x);
        all.append(" output ").append(output(x));
        return all.toString();
    }

    private static void addOfficer(StringBuilder all, CommandChain x, int i) {
        if (!x.isInNavy(i)) {
            return;
        }
        all.append(i).append(": rank ").append(x.rank(i)).append(" loyalty ").append(x.loyalty(i))
                .append(" refusals ").append(x.refusals(i)).append(" under ");
        final int officer = i;
        all.append(outcome(() -> x.superior(officer))).append(" over ").append(x.subordinates(i))
                .append(" depth ").append(x.depth(i)).append('=').append(x.depthFromTop(i))
                .append(" size ").append(x.commandSize(i)).append('=').append(x.commandSizeByCounting(i))
                .append('\n');
    }

    private static void addFlags(StringBuilder all, CommandChain x) {
        all.append("flags ").append(x.flagCount());
        if (x.flagCount() == 0) {
            return;
        }
        for (char a = 'a'; a <= 'z'; a++) {
            for (char b = 'a'; b <= 'z'; b++) {
                try {
                    int meaning = x.meaning(a, b);
                    all.append(' ').append(a).append(b).append('=').append(meaning);
                } catch (NoSuchElementException absent) {
                    // most pairs of letters are no flag
                }
            }
        }
    }

    static String output(CommandChain x) {
        StringBuilder text = new StringBuilder();
        for (int i = 0; i < 1000; i++) {
            try {
                text.append(x.outputChar(i));
            } catch (IndexOutOfBoundsException end) {
                return text.toString();
            }
        }
        return text.toString();
    }

    static void feed(CommandChain x, String text) {
        for (int i = 0; i < text.length(); i++) {
            x.feed(text.charAt(i));
        }
    }

    static int run(CommandChain x, String text) {
        feed(x, text);
        return x.runCommands();
    }

    static String written(CommandChain x, int officer) {
        x.writeCommand(officer);
        return output(x);
    }

    /** Closes a test: ends with exit code 1 if something was wrong. */
    static void end(String test) {
        System.out.println(test + ": " + checks + " checks, " + wrong + " wrong");
        if (wrong != 0 || checks == 0) {
            System.exit(1);
        }
    }
}
