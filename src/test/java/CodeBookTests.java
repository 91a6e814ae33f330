/** Promises 8, 9 and 37 to 39 and the term Code book: flags and their meanings. */
public final class CodeBookTests {
    private CodeBookTests() {
    }

    private static void termCodeBook() {
        Run.sentence("Code book", "A flag consists of two letters from 'a' to 'z'.", """
                define('a', 'a', 1) = 1
                define('a', 'z', 2) = 2
                define('z', 'a', 3) = 3
                define('z', 'z', 4) = 4
                meaning('a', 'a') = 1
                meaning('a', 'z') = 2
                meaning('z', 'a') = 3
                meaning('z', 'z') = 4
                """);
        Run.sentence("Code book", "A flag consists of two letters (each pair is a flag of its own)", """
                define('a', 'z', 1) = 1
                define('b', 'a', 2) = 2
                define('a', 'b', 3) = 3
                define('y', 'z', 4) = 4
                define('z', 'y', 5) = 5
                define('z', 'a', 6) = 6
                define('b', 'z', 7) = 7
                define('c', 'a', 8) = 8
                erase('a', 'z') = 1
                meaning('b', 'a') = 2
                meaning('a', 'b') = 3
                meaning('y', 'z') = 4
                meaning('z', 'y') = 5
                meaning('z', 'a') = 6
                meaning('b', 'z') = 7
                meaning('c', 'a') = 8
                """);
        Run.sentence("Code book", "The code book assigns a meaning from 0 to 99 to at most 20 flags.",
                Rows.FULL_BOOK + """
                flagCount() = 20
                define('z', 'z', 1) throws.IllegalStateException
                flagCount() = 20
                meaning('a', 'a') = 0
                meaning('a', 't') = 9
                meaning('z', 'z') throws.NoSuchElementException
                """);
    }

    private static void define() {
        Run.sentence("8", "Throws IllegalArgumentException if one of both is not a letter from 'a' to 'z'",
                Rows.eachNoLetter("define(%, 'a', 1)" + Rows.ARGUMENT)
                + Rows.eachNoLetter("define('a', %, 1)" + Rows.ARGUMENT)
                + Rows.eachNoLetter("define(%, %, 1)" + Rows.ARGUMENT) + """
                flagCount() = 0
                define('a', 'z', 1) = 1
                define('z', 'a', 1) = 2
                """);
        Run.sentence("8", "or the meaning is out of range",
                Rows.each("define('a', 'z', %)" + Rows.ARGUMENT, "MIN", -1, 100, 256, "MAX") + "flagCount() = 0\n");
        Run.sentence("8", "meaning: the meaning, 0 to 99", """
                define('a', 'z', -1) throws.IllegalArgumentException
                define('a', 'z', 100) throws.IllegalArgumentException
                define('a', 'z', 0) = 1
                meaning('a', 'z') = 0
                define('z', 'a', 99) = 2
                meaning('z', 'a') = 99
                define('a', 'z', 100) throws.IllegalArgumentException
                meaning('a', 'z') = 0
                """);
        Run.sentence("8", "Throws IllegalStateException if there are 20 other flags in the code book",
                Rows.FULL_BOOK + """
                define('a', 'u', 1) throws.IllegalStateException
                undo() = 7
                define('a', 'u', 1) = 20
                define('a', 't', 1) throws.IllegalStateException
                """);
        Run.sentence("8", "if there are 20 other flags in the code book (19 others are not too many)",
                Rows.FULL_BOOK + """
                define('a', 'a', 77) = 20
                meaning('a', 'a') = 77
                define('a', 't', 78) = 20
                meaning('a', 't') = 78
                erase('a', 'c') = 2
                define('z', 'z', 79) = 20
                define('a', 'c', 2) throws.IllegalStateException
                """);
        Run.sentence("8", "Assigns a meaning to a flag, which replaces an earlier one.", """
                define('a', 'b', 1) = 1
                define('a', 'b', 2) = 1
                meaning('a', 'b') = 2
                flagsWith(1) = 0
                define('b', 'a', 1) = 2
                define('a', 'b', 2) = 2
                meaning('a', 'b') = 2
                """);
        Run.sentence("8", "Returns the number of flags in the code book afterwards. (from 1 to 20)", """
                define('z', 'z', 1) = 1
                define('z', 'z', 1) = 1
                define('z', 'y', 1) = 2
                erase('z', 'z') = 1
                erase('z', 'y') = 1
                """ + Rows.FULL_BOOK.replace("define('a', 't', 9)", "define('a', 't', 9) = 20")
                        .replace("define('a', 's', 8)", "define('a', 's', 8) = 19")
                        .replace("define('a', 'a', 0)", "define('a', 'a', 0) = 1"));
        Run.sentence("Errors", "If several exceptions apply, the one listed first is thrown. (define)",
                Rows.FULL_BOOK + """
                define('A', 'z', 1) throws.IllegalArgumentException
                define('z', '{', 1) throws.IllegalArgumentException
                define('z', 'z', 100) throws.IllegalArgumentException
                define('z', 'z', -1) throws.IllegalArgumentException
                define('z', 'z', 99) throws.IllegalStateException
                """);
    }

    private static void erase() {
        Run.sentence("9", "Throws IllegalArgumentException if one of both is not a letter from 'a' to 'z'",
                "define('a', 'a', 1)\n" + Rows.eachNoLetter("erase(%, 'a')" + Rows.ARGUMENT)
                + Rows.eachNoLetter("erase('a', %)" + Rows.ARGUMENT)
                + Rows.eachNoLetter("erase(%, %)" + Rows.ARGUMENT) + """
                flagCount() = 1
                erase('a', 'a') = 1
                """);
        Run.sentence("9", "Throws NoSuchElementException if the flag is not in the code book", """
                erase('a', 'a') throws.NoSuchElementException
                erase('z', 'z') throws.NoSuchElementException
                define('a', 'b', 1)
                erase('b', 'a') throws.NoSuchElementException
                erase('a', 'a') throws.NoSuchElementException
                erase('a', 'b') = 1
                erase('a', 'b') throws.NoSuchElementException
                flagCount() = 0
                """);
        Run.sentence("9", "if the flag is not in the code book (which is full)", Rows.FULL_BOOK + """
                erase('a', 'u') throws.NoSuchElementException
                flagCount() = 20
                erase('a', 'a') = 0
                erase('a', 'a') throws.NoSuchElementException
                erase('a', 't') = 9
                flagCount() = 18
                meaning('a', 's') = 8
                meaning('a', 'b') = 1
                """);
        Run.sentence("9", "Returns the meaning that it had. (the least, the greatest, the latest)", """
                define('a', 'a', 0)
                define('z', 'z', 99)
                define('m', 'z', 5)
                define('m', 'z', 6)
                erase('m', 'z') = 6
                erase('a', 'a') = 0
                erase('z', 'z') = 99
                flagCount() = 0
                """);
        Run.sentence("Code book", "A flag consists of two letters from 'a' to 'z'. (characters beside the letters are no"
                + " way to the flag before or behind)", """
                define('a', 'a', 1)
                define('a', 'z', 2)
                define('b', 'a', 3)
                erase('`', '{') throws.IllegalArgumentException
                erase('a', '{') throws.IllegalArgumentException
                erase('b', '`') throws.IllegalArgumentException
                meaning('`', '{') throws.IllegalArgumentException
                meaning('a', '{') throws.IllegalArgumentException
                meaning('b', '`') throws.IllegalArgumentException
                define('`', '{', 9) throws.IllegalArgumentException
                define('a', '{', 9) throws.IllegalArgumentException
                define('b', '`', 9) throws.IllegalArgumentException
                meaning('a', 'a') = 1
                meaning('a', 'z') = 2
                meaning('b', 'a') = 3
                """);
        Run.sentence("Errors", "If several exceptions apply, the one listed first is thrown. (erase, meaning)", """
                erase('A', 'a') throws.IllegalArgumentException
                erase('a', '{') throws.IllegalArgumentException
                meaning('`', 'a') throws.IllegalArgumentException
                meaning('a', 'Z') throws.IllegalArgumentException
                """);
    }

    private static void queries() {
        Run.sentence("37", "Returns the number, 0 to 20.", "flagCount() = 0\ndefine('z', 'z', 1)\nflagCount() = 1\n"
                + "erase('z', 'z')\nflagCount() = 0\n" + Rows.FULL_BOOK + """
                flagCount() = 20
                define('a', 'u', 1) throws.IllegalStateException
                flagCount() = 20
                define('a', 'a', 1)
                flagCount() = 20
                erase('a', 'a')
                flagCount() = 19
                """);
        Run.sentence("38", "Throws IllegalArgumentException if one of both is not a letter from 'a' to 'z'",
                "define('a', 'a', 1)\n" + Rows.eachNoLetter("meaning(%, 'a')" + Rows.ARGUMENT)
                + Rows.eachNoLetter("meaning('a', %)" + Rows.ARGUMENT)
                + Rows.eachNoLetter("meaning(%, %)" + Rows.ARGUMENT) + "meaning('a', 'a') = 1\n");
        Run.sentence("38", "Throws NoSuchElementException if the flag is not in the code book", """
                meaning('a', 'a') throws.NoSuchElementException
                define('a', 'b', 0)
                meaning('a', 'b') = 0
                meaning('b', 'a') throws.NoSuchElementException
                meaning('a', 'a') throws.NoSuchElementException
                meaning('a', 'c') throws.NoSuchElementException
                erase('a', 'b')
                meaning('a', 'b') throws.NoSuchElementException
                """);
        Run.sentence("38", "Returns the meaning. (the first and the last of a full book)", Rows.FULL_BOOK + """
                meaning('a', 'a') = 0
                meaning('a', 'b') = 1
                meaning('a', 't') = 9
                meaning('a', 'u') throws.NoSuchElementException
                """);
        Run.sentence("39", "Throws IllegalArgumentException if the meaning is out of range",
                Rows.each("flagsWith(%)" + Rows.ARGUMENT, "MIN", -1, 100, 256, "MAX"));
        Run.sentence("39", "meaning: the meaning, 0 to 99", """
                flagsWith(-1) throws.IllegalArgumentException
                flagsWith(100) throws.IllegalArgumentException
                define('a', 'a', 0)
                define('z', 'z', 99)
                flagsWith(0) = 1
                flagsWith(99) = 1
                """);
        Run.sentence("39", "Returns the number of flags. (from 0 to 20)", """
                flagsWith(0) = 0
                define('z', 'z', 7)
                flagsWith(7) = 1
                flagsWith(6) = 0
                erase('z', 'z')
                flagsWith(7) = 0
                """ + Rows.FULL_BOOK.replaceAll(", [0-9]\\)", ", 7)") + """
                flagsWith(7) = 20
                flagsWith(0) = 0
                define('a', 't', 8)
                flagsWith(7) = 19
                flagsWith(8) = 1
                erase('a', 'a')
                flagsWith(7) = 18
                """);
    }

    public static void main(String[] args) {
        termCodeBook();
        define();
        erase();
        queries();
        Run.end("CodeBookTests");
    }
}
