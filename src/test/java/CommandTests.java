/** Promises 44 to 47 and the term Commands: the input buffer and the commands that it holds. */
public final class CommandTests {
    private static final String SIXTY = "wait;wait;wait;wait;wait;wait;wait;wait;wait;wait;wait;wait;";

    private CommandTests() {
    }

    private static String malformed(String text, int position) {
        return "run(" + text + ")" + Rows.ARGUMENT + "\nerrorPosition() = " + position + "\n";
    }

    private static String failing(String text, int command) {
        return "run(" + text + ")" + Rows.UNSUPPORTED + "\nfailedCommand() = " + command + "\n";
    }

    private static void feed() {
        Run.sentence("Commands", "The input buffer holds at most 60 characters.",
                "type(" + SIXTY.substring(1) + ") = 59\n" + """
                feed('x') = 60
                feed('x') throws.IllegalStateException
                """);
        Run.sentence("44", "Returns the new length of the input buffer. (from 1 to 60)", """
                feed('w') = 1
                feed('a') = 2
                feed('i') = 3
                feed('t') = 4
                runCommands() = 1
                feed('w') = 1
                """ + "type(" + SIXTY.substring(1) + ") = 60\n");
        Run.sentence("44", "Throws IllegalStateException if the input buffer holds 60 characters", "type("
                + SIXTY.substring(10) + "add 0 8 50) = 60\n" + """
                feed(';') throws.IllegalStateException
                feed('0') throws.IllegalStateException
                feed('0') throws.IllegalStateException
                runCommands() = 11
                loyalty(1) = 50
                feed('w') = 1
                """);
        Run.sentence("44", "character: any character",
                Rows.each("feed(%)", "#0", "#1", "' '", "#127", "#128", "#255", "#256", "#65535") + """
                feed('a') = 9
                runCommands() throws.IllegalArgumentException
                errorPosition() = 0
                """);
    }

    private static void texts() {
        Run.sentence("Commands", "A text consists of one or more commands, separated by semicolons. (none)",
                "runCommands()" + Rows.ARGUMENT + "\nerrorPosition() = 0\n" + malformed("", 0) + malformed(" ", 0)
                + malformed(";", 0) + malformed(";;", 0) + "hour() = 0\n");
        Run.sentence("Commands", "A text consists of one or more commands, separated by semicolons. (one, two, twelve)",
                "run(wait) = 1\nhour() = 1\nrun(wait;wait) = 2\nhour() = 3\n"
                + "run(" + SIXTY.substring(0, 59) + ") = 12\nhour() = 15\n");
        Run.sentence("Commands", "separated by semicolons. (by nothing else, and not before or behind)",
                malformed(";wait", 0) + malformed("wait;", 5) + malformed("wait;;wait", 5) + malformed("wait; wait", 5)
                + malformed("wait ;wait", 5) + malformed("wait wait", 5) + malformed("wait,wait", 4)
                + malformed("wait:wait", 4) + malformed("waitwait", 4) + malformed(" wait", 0) + malformed("wait ", 5)
                + malformed("fire 1 ", 6) + malformed("fire 1fire 2", 6) + malformed("wait 1;", 7) + "hour() = 0\n");
    }

    private static void formOfAdd() {
        Run.sentence("Commands", "\"add\", a blank, a superior, a blank, a rank, a blank and a loyalty appoints an"
                + " officer.", """
                run(add 0 8 5) = 1
                superior(1) = 0
                rank(1) = 8
                loyalty(1) = 5
                run(add 01 7 100) = 1
                superior(2) = 1
                rank(2) = 7
                loyalty(2) = 100
                run(add 2 1 05;add 00 1 000;add 0 1 099) = 3
                superior(3) = 2
                loyalty(3) = 5
                loyalty(4) = 0
                loyalty(5) = 99
                undoCount() = 3
                """);
        Run.sentence("Commands", "A text is malformed if it does not have this form. (add that ends too early)",
                malformed("add", 3) + malformed("add ", 4) + malformed("add 0", 5) + malformed("add 00", 6)
                + malformed("add 0 ", 6) + malformed("add 0 8", 7) + malformed("add 0 8 ", 8));
        Run.sentence("Commands", "A text is malformed if it does not have this form. (add with other characters)",
                malformed("add0 8 5", 3) + malformed("add  0 8 5", 4) + malformed("add x 8 5", 4)
                + malformed("add -1 8 5", 4) + malformed("add 0x 8 5", 5) + malformed("add 0;8 5", 5)
                + malformed("add 0  8 5", 6) + malformed("add 0 x 5", 6) + malformed("add 0 8x5", 7)
                + malformed("add 0 8  5", 8) + malformed("add 0 8 x", 8) + malformed("add 0 8 +5", 8)
                + malformed("add 0 8 5x", 9) + malformed("add 0 8 50 ", 10) + malformed("add 0 8;wait", 7));
        Run.sentence("Commands", "Ranks have one digit", malformed("add 0 08 5", 7) + malformed("add 0 88 5", 7)
                + malformed("add 11 10 5", 8) + "run(add 0 8 5) = 1\n");
        Run.sentence("Commands", "loyalties and severities have one to three digits (loyalties)",
                malformed("add 0 8 0005", 11) + malformed("add 0 8 1000", 11) + malformed("add 00 8 1000", 12)
                + "run(add 0 8 5;add 0 8 05;add 0 8 005) = 3\n");
        Run.sentence("Commands", "all other numbers have one or two digits (superiors)",
                malformed("add 000 8 5", 6) + malformed("add 123 8 5", 6) + "run(add 0 8 5;add 00 8 5) = 2\n");
    }

    private static void formOfMoveAndFire() {
        Run.sentence("Commands", "\"move\", a blank, an officer, a blank and a superior transfers an officer.",
                Rows.FLEET + """
                run(move 3 2) = 1
                superior(3) = 2
                run(move 03 01;move 5 00) = 2
                superior(3) = 1
                superior(5) = 0
                """);
        Run.sentence("Commands", "A text is malformed if it does not have this form. (move)", malformed("move", 4)
                + malformed("move ", 5) + malformed("move 3", 6) + malformed("move 3 ", 7) + malformed("move3 2", 4)
                + malformed("move  3 2", 5) + malformed("move x 2", 5) + malformed("move 3,2", 6)
                + malformed("move 3  2", 7) + malformed("move 3 x", 7) + malformed("move 3 2 ", 8)
                + malformed("move 3 2 1", 8) + malformed("move 3;move 2", 6));
        Run.sentence("Commands", "all other numbers have one or two digits (officers and superiors of move)",
                Rows.FLEET + malformed("move 003 2", 7) + malformed("move 3 002", 9) + malformed("move 03 002", 10)
                + "run(move 3 2;move 03 01;move 3 02) = 3\n");
        Run.sentence("Commands", "\"fire\", a blank and an officer dismisses one.", Rows.FULL + """
                run(fire 3) = 1
                isInNavy(3) = false
                run(fire 11;fire 04) = 2
                isInNavy(11) = false
                isInNavy(4) = false
                officerCount() = 9
                """);
        Run.sentence("Commands", "A text is malformed if it does not have this form. (fire)", malformed("fire", 4)
                + malformed("fire ", 5) + malformed("fire3", 4) + malformed("fire  3", 5) + malformed("fire x", 5)
                + malformed("fire 3x", 6) + malformed("fire 3 2", 6) + malformed("fire ;fire 3", 5)
                + malformed("fire;fire 3", 4));
        Run.sentence("Commands", "all other numbers have one or two digits (officers of fire)",
                Rows.FLEET + malformed("fire 003", 7) + malformed("fire 111", 7) + "run(fire 3;fire 05) = 2\n");
    }

    private static void formOfOrder() {
        Run.sentence("Commands", "\"order\", a blank, an issuer, a blank, a target, a blank and a severity issues an"
                + " order.", Rows.LINE + """
                run(order 0 3 5) = 1
                holder(0) = 0
                target(0) = 3
                severity(0) = 5
                run(order 01 02 100;order 2 3 000) = 2
                holder(1) = 1
                target(1) = 2
                severity(1) = 100
                severity(2) = 0
                """);
        Run.sentence("Commands", "A text is malformed if it does not have this form. (order)",
                malformed("order", 5) + malformed("order ", 6) + malformed("order 0", 7) + malformed("order 0 ", 8)
                + malformed("order 0 3", 9) + malformed("order 0 3 ", 10) + malformed("order0 3 5", 5)
                + malformed("order  0 3 5", 6)
                + malformed("order x 3 5", 6) + malformed("order 0x3 5", 7) + malformed("order 0 x 5", 8)
                + malformed("order 0  3 5", 8) + malformed("order 0 3x5", 9) + malformed("order 0 3 x", 10)
                + malformed("order 0 3  5", 10) + malformed("order 0 3 5x", 11) + malformed("order 0 3 5 ", 11)
                + malformed("orders 0 3 5", 5));
        Run.sentence("Commands", "loyalties and severities have one to three digits (severities)", Rows.LINE
                + malformed("order 0 3 1000", 13) + malformed("order 0 3 0005", 13)
                + "run(order 0 3 5;order 0 3 05;order 0 3 005) = 3\n");
        Run.sentence("Commands", "all other numbers have one or two digits (issuers and targets)", Rows.LINE
                + malformed("order 000 3 5", 8) + malformed("order 0 003 5", 10) + malformed("order 00 003 5", 11)
                + "run(order 0 3 5;order 00 3 5;order 0 03 5) = 3\n");
    }

    private static void formOfFlag() {
        Run.sentence("Commands", "\"flag\", a blank, two letters, a blank and a meaning defines a flag.", """
                run(flag az 5) = 1
                meaning('a', 'z') = 5
                run(flag za 99;flag aa 00;flag zz 01) = 3
                meaning('z', 'a') = 99
                meaning('a', 'a') = 0
                meaning('z', 'z') = 1
                run(flag za 0) = 1
                meaning('z', 'a') = 0
                """);
        Run.sentence("Commands", "A text is malformed if it does not have this form. (flag)", malformed("flag", 4)
                + malformed("flag ", 5) + malformed("flag a", 6) + malformed("flag az", 7) + malformed("flag az ", 8)
                + malformed("flagaz 5", 4) + malformed("flag  az 5", 5) + malformed("flag a 5", 6)
                + malformed("flag azz 5", 7) + malformed("flag az5", 7) + malformed("flag az  5", 8)
                + malformed("flag az x", 8) + malformed("flag az 5x", 9) + malformed("flag az 5 ", 9)
                + malformed("flag 5", 5));
        Run.sentence("Commands", "letters are small letters", malformed("flag Az 5", 5) + malformed("flag aZ 5", 6)
                + malformed("flag `a 5", 5) + malformed("flag {a 5", 5) + malformed("flag a` 5", 6)
                + malformed("flag a{ 5", 6) + malformed("flag 1a 5", 5) + malformed("flag a1 5", 6)
                + "type(flag )\nfeed(#225)" + "\nrunCommands()" + Rows.ARGUMENT + "\nerrorPosition() = 5\n"
                + "type(flag a)\nfeed(#353)" + "\nrunCommands()" + Rows.ARGUMENT + "\nerrorPosition() = 6\n");
        Run.sentence("Commands", "all other numbers have one or two digits (meanings)", malformed("flag az 005", 10)
                + malformed("flag az 100", 10) + "run(flag az 5;flag az 05;flag az 99) = 3\n");
    }

    private static void formOfWait() {
        Run.sentence("Commands", "\"wait\", optionally followed by a blank and a number, lets this number of hours"
                + " pass, or one hour.", """
                run(wait) = 1
                hour() = 1
                run(wait 1) = 1
                hour() = 2
                run(wait 24) = 1
                hour() = 26
                run(wait 02;wait;wait 3) = 3
                hour() = 32
                """);
        Run.sentence("Commands", "A text is malformed if it does not have this form. (wait)", malformed("wait ", 5)
                + malformed("wait x", 5) + malformed("wait  1", 5) + malformed("wait -1", 5) + malformed("wait1", 4)
                + malformed("waits", 4) + malformed("wait 1x", 6) + malformed("wait 1 ", 6) + malformed("wait 1 2", 6)
                + malformed("wait ;wait", 5));
        Run.sentence("Commands", "all other numbers have one or two digits (hours)", malformed("wait 001", 7)
                + malformed("wait 100", 7) + malformed("wait 123", 7)
                + "run(wait 1;wait 01;wait 10) = 3\nhour() = 12\n");
        Run.sentence("Commands", "numbers have one or two digits (from 0 to 9, and no other characters)",
                malformed("wait /", 5) + malformed("wait :", 5) + malformed("wait 1/", 6) + malformed("wait 1:", 6)
                + "type(wait )\nfeed(#1633)\nrunCommands()" + Rows.ARGUMENT + "\nerrorPosition() = 5\n"
                + "type(wait 1)\nfeed(#304)\nrunCommands()" + Rows.ARGUMENT + "\nerrorPosition() = 6\n"
                + "run(wait 09) = 1\nhour() = 9\n");
    }

    private static void keywords() {
        for (String keyword : new String[] {"add", "move", "fire", "order", "flag", "wait"}) {
            StringBuilder rows = new StringBuilder();
            for (int i = 0; i < keyword.length(); i++) {
                String begin = keyword.substring(0, i);
                rows.append(malformed(begin, i)).append(malformed(begin + "~" + keyword.substring(i), i))
                        .append(malformed(begin + keyword.substring(i).toUpperCase(), i))
                        .append(malformed("wait;" + begin, 5 + i))
                        .append(malformed("wait 1;" + begin + "x" + keyword.substring(i + 1), 7 + i));
            }
            Run.sentence("Commands", "Keywords are compared letter by letter. (" + keyword + ")", rows.toString());
        }
        Run.sentence("Commands", "Keywords are compared letter by letter. (two that are mixed)", malformed("flre 1", 2)
                + malformed("fiag az 1", 2) + malformed("frder", 1) + malformed("wire 1", 1) + malformed("mait", 1)
                + malformed("addd 0 8 5", 3) + malformed("waitt", 4) + malformed("firee 1", 4));
    }

    private static void errorPosition() {
        Run.sentence("Commands", "Its error position is the index of the first character that cannot continue a"
                + " well-formed text (from 0 to 59)", malformed("x", 0) + malformed("x" + SIXTY.substring(1), 0)
                + malformed(SIXTY.substring(0, 59) + "x", 59) + malformed(SIXTY.substring(0, 58) + "xt", 58)
                + malformed("wait;xait;yait", 5));
        Run.sentence("Commands", "or the length of the text if the text ends too early. (from 0 to 60)",
                malformed("", 0) + malformed("w", 1) + malformed(SIXTY.substring(0, 58), 58) + malformed(SIXTY, 60)
                + "run(" + SIXTY.substring(0, 59) + ") = 12\n");
        Run.sentence("45", "Throws IllegalArgumentException if the text is malformed; the error position is kept", """
                run(add 0 8 50;wait;wai) throws.IllegalArgumentException
                errorPosition() = 19
                officerCount() = 1
                hour() = 0
                undoCount() = 0
                """);
        Run.sentence("46", "Throws NoSuchElementException if no text was malformed", """
                errorPosition() throws.NoSuchElementException
                run(wait) = 1
                run(fire 0) throws.UnsupportedOperationException
                errorPosition() throws.NoSuchElementException
                type(wai)
                errorPosition() throws.NoSuchElementException
                runCommands() throws.IllegalArgumentException
                errorPosition() = 3
                """);
        Run.sentence("46", "Returns the error position of the latest malformed text. (whatever followed)", """
                run(wait;x) throws.IllegalArgumentException
                errorPosition() = 5
                run(wait) = 1
                errorPosition() = 5
                run(fire 0) throws.UnsupportedOperationException
                errorPosition() = 5
                run(wa) throws.IllegalArgumentException
                errorPosition() = 2
                run() throws.IllegalArgumentException
                errorPosition() = 0
                """);
    }

    private static void runCommands() {
        Run.sentence("45", "Returns the number of commands. (from 1 to 12)", "run(wait) = 1\nrun(wait 2;fire 1)"
                + Rows.UNSUPPORTED + "\nrun(add 0 8 5;fire 1) = 2\nrun(" + SIXTY.substring(5, 59) + ") = 11\nrun("
                + SIXTY.substring(0, 59) + ") = 12\nundoCount() = 4\n");
        Run.sentence("45", "Carries out the text in the input buffer, command by command. (each on what the ones before"
                + " it left)", """
                run(add 0 8 50;add 1 7 60;order 0 2 50;wait 2;move 2 0;fire 1) = 6
                executedOrders() = 1
                loyalty(2) = 62
                write(0) = 0(2)
                hour() = 2
                """);
        Run.sentence("45", "The input buffer is empty afterwards in all cases.", """
                run(wait) = 1
                feed('w') = 1
                run(x) throws.IllegalArgumentException
                feed('w') = 1
                runCommands() throws.IllegalArgumentException
                run(fire 0) throws.UnsupportedOperationException
                feed('f') = 1
                """);
        Run.sentence("45", "The input buffer is empty afterwards in all cases. (when it was full)", "run("
                + SIXTY.substring(10) + "add 0 8 50) = 11\nfeed('x') = 1\nundo() = 0\nrun(" + SIXTY.substring(1) + ")"
                + Rows.ARGUMENT + "\nrun(" + SIXTY.substring(0, 50) + "add 0 9 50)" + Rows.UNSUPPORTED
                + "\nfeed('x') = 1\n");
        Run.sentence("45", "If a command throws an exception, the state from before the call is kept.", Rows.BUSY + """
                runCommands() = 2
                run(add 0 5 5;move 3 1;order 0 3 9;flag ab 9;wait 3;fire 9) throws.UnsupportedOperationException
                failedCommand() = 5
                run(fire 1;fire 2;flag aa 1;wait 24;fire 4;wait 0) throws.UnsupportedOperationException
                failedCommand() = 5
                """);
        Run.sentence("Errors", "If several exceptions apply, the one listed first is thrown. (runCommands)", """
                run(fire 0;wai) throws.IllegalArgumentException
                errorPosition() = 10
                failedCommand() throws.NoSuchElementException
                """);
    }

    private static void failures() {
        Run.sentence("45", "Throws UnsupportedOperationException if a command throws an exception (add)", Rows.FLEET
                + failing("add 6 1 5", 0) + failing("add 99 1 5", 0) + failing("add 0 9 5", 0) + failing("add 0 0 5", 0)
                + failing("add 0 5 101", 0) + failing("add 0 5 999", 0) + "run(add 5 2 100;add 0 8 0) = 2\n"
                + "3 x appoint(0, 5, 50)\n" + failing("wait;add 0 5 5;add 0 5 5", 2)
                + failing("wait;wait;fire 1;add 0 5 5;add 0 5 5", 4) + "run(fire 1;add 0 5 5) = 2\n"
                + failing("add 0 5 5", 0));
        Run.sentence("45", "if a command throws an exception (move, fire)", Rows.FLEET
                + failing("move 6 0", 0) + failing("move 1 99", 0) + failing("move 0 1", 0) + failing("move 3 3", 0)
                + failing("move 1 5", 0) + failing("move 1 2", 0) + failing("move 3 2;move 2 3", 1)
                + failing("fire 6", 0) + failing("fire 0", 0) + failing("fire 99", 0) + failing("fire 5;fire 5", 1)
                + failing("fire 2;move 3 2", 1) + "run(move 3 2;fire 1;fire 2) = 3\n");
        Run.sentence("45", "if a command throws an exception (officers behind the full navy)", Rows.FULL
                + failing("fire 12", 0) + failing("move 12 0", 0) + failing("move 11 12", 0)
                + failing("order 0 12 5", 0) + failing("add 12 1 5", 0) + failing("wait;fire 11;fire 11", 2)
                + "run(order 0 11 5;move 11 0;fire 11) = 3\n");
        Run.sentence("45", "if a command throws an exception (order)", Rows.LINE
                + failing("order 5 3 5", 0) + failing("order 0 99 5", 0) + failing("order 0 3 101", 0)
                + failing("order 0 3 999", 0) + failing("order 3 0 5", 0) + failing("order 1 1 5", 0)
                + "5 x issue(0, 3, 10)\n" + failing("order 0 3 100;order 0 3 0", 1)
                + "run(order 0 3 100) = 1\n" + failing("order 0 3 0", 0));
        Run.sentence("45", "if a command throws an exception (flag, wait)", Rows.FULL_BOOK
                + failing("flag zz 1", 0) + failing("flag aa 1;flag az 1", 1) + "run(flag aa 1) = 1\n"
                + failing("wait 0", 0) + failing("wait 00", 0) + failing("wait 25", 0) + failing("wait 99", 0)
                + failing("wait 24;wait 25", 1) + "hour() = 0\nrun(wait 24;wait 1) = 2\n");
    }

    private static void failedCommand() {
        Run.sentence("47", "Throws NoSuchElementException if no command failed", """
                failedCommand() throws.NoSuchElementException
                run(wait) = 1
                run(x) throws.IllegalArgumentException
                dismiss(0) throws.IllegalArgumentException
                failedCommand() throws.NoSuchElementException
                run(fire 0) throws.UnsupportedOperationException
                failedCommand() = 0
                """);
        Run.sentence("47", "Returns the index of the command, counted from 0 (the first and the last that there is"
                + " room for)", failing("wait 0", 0) + failing(SIXTY.substring(0, 50) + "wait 0", 10)
                + failing("wait 0;wait 0", 0) + failing("wait;wait 0", 1));
        Run.sentence("47", "that threw an exception in the latest failed call of runCommands. (whatever followed)", """
                run(wait;fire 0) throws.UnsupportedOperationException
                failedCommand() = 1
                run(wait) = 1
                failedCommand() = 1
                run(fire 0;wai) throws.IllegalArgumentException
                failedCommand() = 1
                undo()
                failedCommand() = 1
                run(wait;wait;fire 0) throws.UnsupportedOperationException
                failedCommand() = 2
                run(fire 0) throws.UnsupportedOperationException
                failedCommand() = 0
                """);
    }

    public static void main(String[] args) {
        feed();
        texts();
        formOfAdd();
        formOfMoveAndFire();
        formOfOrder();
        formOfFlag();
        formOfWait();
        keywords();
        errorPosition();
        runCommands();
        failures();
        failedCommand();
        Run.end("CommandTests");
    }
}
