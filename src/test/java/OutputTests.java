/** Promises 48 and 49: the output. */
public final class OutputTests {
    private OutputTests() {
    }

    private static void writeCommand() {
        Run.sentence("48", "Throws IndexOutOfBoundsException if there is no such officer in the navy",
                Rows.GAP + "write(1) = 1(3(4,5))\n" + Rows.eachAbsent("writeCommand(%)" + Rows.INDEX) + """
                outputChar(0) = 1
                outputChar(7) = )
                write(5) = 5
                """);
        Run.sentence("48", "no such officer in the navy (of the full navy)", Rows.FULL + """
                writeCommand(12) throws.IndexOutOfBoundsException
                write(11) = 11
                """);
        Run.sentence("48", "An example is 0(1(3,4),2).", """
                appoint(0, 8, 1)
                appoint(0, 8, 1)
                appoint(1, 7, 1)
                appoint(1, 7, 1)
                writeCommand(0) = 11
                write(0) = 0(1(3,4),2)
                """);
        Run.sentence("48", "and, if it has subordinates, \"(\" (an officer without any)", Rows.FLEET + """
                write(2) = 2
                writeCommand(2) = 1
                write(5) = 5
                dismiss(4)
                dismiss(5)
                write(3) = 3
                """);
        Run.sentence("48", "the same for each of them in the order of the indices, with \",\" between two, and \")\""
                + " (one, two and many)", Rows.FLEET + """
                write(1) = 1(3(4,5))
                write(3) = 3(4,5)
                transfer(5, 0) = 6
                write(3) = 3(4)
                write(0) = 0(1(3(4)),2,5)
                transfer(4, 0) = 6
                write(0) = 0(1(3),2,4,5)
                transfer(3, 0) = 6
                transfer(2, 1) = 2
                write(0) = 0(1(2),3,4,5)
                """);
        Run.sentence("48", "in the order of the indices (of one and two digits)", Rows.FULL + """
                write(0) = 0(1,2,3,4,5,6,7,8,9,10,11)
                promote(11) = 6
                transfer(10, 11) = 2
                transfer(9, 11) = 3
                write(11) = 11(9,10)
                write(0) = 0(1,2,3,4,5,6,7,8,11(9,10))
                """);
        Run.sentence("48", "Returns the length of the output. (from 1 to 35, of the longest way)",
                "write(0) = 0\nwriteCommand(0) = 1\n" + Rows.CHAIN + """
                appoint(0, 8, 1)
                appoint(9, 7, 1)
                appoint(10, 6, 1)
                writeCommand(0) = 35
                write(0) = 0(1(2(3(4(5(6(7(8))))))),9(10(11)))
                """);
        Run.sentence("48", "Replaces the output by the command of an officer", Rows.FLEET + """
                write(0) = 0(1(3(4,5)),2)
                writeCommand(2) = 1
                outputChar(0) = 2
                outputChar(1) throws.IndexOutOfBoundsException
                write(0) = 0(1(3(4,5)),2)
                dismiss(1)
                outputChar(2) = 1
                """);
    }

    private static void outputChar() {
        Run.sentence("49", "The output is initially empty.", Rows.each("outputChar(%)" + Rows.INDEX, "MIN", -1, 0, 1,
                59, 60, "MAX"));
        Run.sentence("49", "Throws IndexOutOfBoundsException if there is no such character", Rows.FLEET
                + "writeCommand(3) = 6\n"
                + Rows.each("outputChar(%)" + Rows.INDEX, "MIN", -65536, -256, -1, 6, 7, 59, 60, 61, 256, 65536, "MAX")
                + """
                outputChar(0) = 3
                outputChar(1) = (
                outputChar(2) = 4
                outputChar(3) = ,
                outputChar(4) = 5
                outputChar(5) = )
                outputChar(6) throws.IndexOutOfBoundsException
                """);
        Run.sentence("49", "Throws IndexOutOfBoundsException if there is no such character (of the longest output)",
                Rows.CHAIN + """
                appoint(0, 8, 1)
                appoint(9, 7, 1)
                appoint(10, 6, 1)
                writeCommand(0) = 35
                outputChar(34) = )
                outputChar(35) throws.IndexOutOfBoundsException
                """);
        Run.sentence("49", "Returns the character. (what is fed plays no part)", """
                type(wait)
                outputChar(0) throws.IndexOutOfBoundsException
                writeCommand(0) = 1
                feed('x') = 5
                outputChar(0) = 0
                runCommands() throws.IllegalArgumentException
                outputChar(0) = 0
                outputChar(1) throws.IndexOutOfBoundsException
                """);
    }

    public static void main(String[] args) {
        writeCommand();
        outputChar();
        Run.end("OutputTests");
    }
}
