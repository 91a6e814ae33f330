/** Promises 8, 9 and 37 to 39: the code book. */
public final class CodeBookTests {
    private static final char[] NO_LETTERS = {'A', 'Z', '`', '{', '1', ' ', (char) 0, (char) 225, (char) 65535};

    private CodeBookTests() {
    }

    private static void promise8Define() {
        CommandChain x = new CommandChain();
        for (char bad : NO_LETTERS) {
            Check.fails(x, "define(" + (int) bad + ", a)", Check.ARGUMENT, () -> x.define(bad, 'a', 1));
            Check.fails(x, "define(a, " + (int) bad + ")", Check.ARGUMENT, () -> x.define('a', bad, 1));
        }
        for (int bad : new int[] {-1, 100, Integer.MIN_VALUE, Integer.MAX_VALUE}) {
            Check.fails(x, "define(a, a, " + bad + ")", Check.ARGUMENT, () -> x.define('a', 'a', bad));
        }
        Check.is("define(a, z, 0)", x.define('a', 'z', 0), 1);
        Check.is("define(z, a, 99)", x.define('z', 'a', 99), 2);
        Check.is("define(a, z, 5) again", x.define('a', 'z', 5), 2);
        Check.is("meaning(a, z)", x.meaning('a', 'z'), 5);
        Check.is("meaning(z, a)", x.meaning('z', 'a'), 99);
        for (int i = 3; i <= 20; i++) {
            Check.is("define number " + i, x.define('m', (char) ('a' + i), i), i);
        }
        Check.fails(x, "define the 21st", Check.STATE, () -> x.define('b', 'b', 1));
        Check.fails(x, "define the 21st badly", Check.ARGUMENT, () -> x.define('b', 'b', 100));
        Check.is("define one of the 20", x.define('m', 'd', 77), 20);
        Check.is("its meaning", x.meaning('m', 'd'), 77);
    }

    private static void promise9Erase() {
        CommandChain x = new CommandChain();
        for (char bad : NO_LETTERS) {
            Check.fails(x, "erase(" + (int) bad + ", a)", Check.ARGUMENT, () -> x.erase(bad, 'a'));
            Check.fails(x, "erase(a, " + (int) bad + ")", Check.ARGUMENT, () -> x.erase('a', bad));
        }
        Check.fails(x, "erase of nothing", Check.ELEMENT, () -> x.erase('a', 'a'));
        x.define('a', 'b', 1);
        x.define('b', 'a', 0);
        x.define('c', 'c', 3);
        Check.fails(x, "erase(a, a)", Check.ELEMENT, () -> x.erase('a', 'a'));
        Check.is("erase(b, a)", x.erase('b', 'a'), 0);
        Check.is("flagCount then", x.flagCount(), 2);
        Check.fails(x, "erase(b, a) again", Check.ELEMENT, () -> x.erase('b', 'a'));
        Check.is("meaning(a, b) stays", x.meaning('a', 'b'), 1);
        Check.is("meaning(c, c) stays", x.meaning('c', 'c'), 3);
        Check.is("erase(c, c)", x.erase('c', 'c'), 3);
        Check.is("erase(a, b)", x.erase('a', 'b'), 1);
        Check.is("flagCount at last", x.flagCount(), 0);
        for (int i = 0; i < 20; i++) {
            x.define('q', (char) ('a' + i), i);
        }
        x.erase('q', 'a');
        Check.is("define in the place that is free", x.define('a', 'a', 1), 20);
    }

    private static void flagsAreToldApart() {
        String[] flags = {"az", "ba", "za", "zz", "aa", "bz", "ca", "yz", "ab", "zy"};
        CommandChain x = new CommandChain();
        for (int i = 0; i < flags.length; i++) {
            Check.is("define " + flags[i], x.define(flags[i].charAt(0), flags[i].charAt(1), i), i + 1);
        }
        for (int i = 0; i < flags.length; i++) {
            Check.is("meaning of " + flags[i], x.meaning(flags[i].charAt(0), flags[i].charAt(1)), i);
        }
    }

    private static void promises37To39Queries() {
        CommandChain x = new CommandChain();
        Check.is("flagCount", x.flagCount(), 0);
        x.define('a', 'a', 7);
        x.define('a', 'b', 7);
        x.define('b', 'a', 0);
        x.define('z', 'z', 99);
        Check.is("flagCount of four", x.flagCount(), 4);
        Check.is("flagsWith(7)", x.flagsWith(7), 2);
        Check.is("flagsWith(0)", x.flagsWith(0), 1);
        Check.is("flagsWith(99)", x.flagsWith(99), 1);
        Check.is("flagsWith(8)", x.flagsWith(8), 0);
        x.define('a', 'b', 8);
        Check.is("flagsWith(7) then", x.flagsWith(7), 1);
        x.erase('a', 'a');
        Check.is("flagsWith(7) at last", x.flagsWith(7), 0);
        for (int bad : new int[] {-1, 100, Integer.MIN_VALUE, Integer.MAX_VALUE}) {
            Check.fails(x, "flagsWith(" + bad + ")", Check.ARGUMENT, () -> x.flagsWith(bad));
        }
        for (char bad : NO_LETTERS) {
            Check.fails(x, "meaning(" + (int) bad + ", a)", Check.ARGUMENT, () -> x.meaning(bad, 'a'));
            Check.fails(x, "meaning(a, " + (int) bad + ")", Check.ARGUMENT, () -> x.meaning('a', bad));
        }
        Check.fails(x, "meaning(c, c)", Check.ELEMENT, () -> x.meaning('c', 'c'));
        Check.is("meaning(b, a)", x.meaning('b', 'a'), 0);
    }

    public static void main(String[] args) {
        promise8Define();
        promise9Erase();
        flagsAreToldApart();
        promises37To39Queries();
        Check.end("CodeBookTests");
    }
}
