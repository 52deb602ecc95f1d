/** Promises 10 to 12: type, number, find. */
public final class NameTest {
    public static void main(String[] args) {
        typing();
        numbers();
        finding();
        Check.finish();
    }

    private static NestedArchives withMounts() {
        Maker maker = new Maker();
        maker.store("both", "outer");
        String[][] names = {{"x", "both"}, {"y"}, {"z", "y", "both"}};
        for (int i = 0; i < names.length; i++) {
            Maker inner = new Maker();
            for (String name : names[i]) {
                inner.store(name, "");
            }
            maker.store("in" + i, inner.bytes());
        }
        NestedArchives x = Calls.opened(maker);
        for (int k = 1; k <= 3; k++) {
            Check.due("mount", x.mount(k), k);
        }
        return x;
    }

    private static void typing() {
        Maker maker = new Maker();
        maker.store("abc~!", "");
        maker.store("0123456789012345678901234567890123456789", "");
        NestedArchives x = Calls.opened(maker);
        Check.due("zeros are left out", x.type(0x0061006200630000L), true);
        Check.due("least and greatest letters", x.type(0x7E21L), true);
        Check.due("number", x.number(0), 0);
        Check.due("a byte of 32", x.type(0x6120L), false);
        Check.due("a byte of 127", x.type(0x7F61L), false);
        Check.due("a byte of 128", x.type(0x8000000000000000L), false);
        Check.due("all ones", x.type(-1L), false);
        Check.due("what is false types nothing", x.number(0), -1);
        for (int i = 0; i < 39; i++) {
            Check.due("type", x.type('0' + i % 10), true);
        }
        Check.due("two too many by one", x.type(0x3939L), false);
        Check.due("no byte is never too many", x.type(0), true);
        Check.due("the fortieth", x.type(0x39L), true);
        Check.due("the forty-first", x.type(0x39L), false);
        Check.due("a wrong byte though it is full", x.type(0x1L), false);
        Check.due("nothing though it is full", x.type(0), true);
        Check.due("a name of 40", x.number(0), 1);
        Check.due("type is free again", x.type(0x3030303030303030L), true);
    }

    private static void numbers() {
        NestedArchives x = withMounts();
        Check.due("number in 0", Calls.number(x, 0, "both"), 0);
        Check.due("number in 1", Calls.number(x, 1, "both"), 1);
        Check.due("number in 2", Calls.number(x, 2, "both"), -1);
        Check.due("number in 3", Calls.number(x, 3, "both"), 2);
        Check.due("a name's beginning", Calls.number(x, 0, "bot"), -1);
        Check.due("a longer name", Calls.number(x, 0, "bothh"), -1);
        Check.due("a capital", Calls.number(x, 0, "Both"), -1);
        Check.due("no name", x.number(0), -1);
        for (int m : new int[] {-1, 4, Integer.MIN_VALUE, Integer.MAX_VALUE}) {
            Calls.type(x, "both");
            Check.throwsIndex("number(" + m + ")", () -> x.number(m));
            Check.due("the name is used by what throws", x.number(0), -1);
        }
        Calls.type(x, "both");
        Check.due("the name is used: first", x.number(0), 0);
        Check.due("the name is used: then", x.number(0), -1);
    }

    private static void finding() {
        NestedArchives x = withMounts();
        Check.due("the first mount", Calls.find(x, 1, "both"), 101);
        Check.due("from the second on", Calls.find(x, 2, "both"), 302);
        Check.due("the third", Calls.find(x, 3, "both"), 302);
        Check.due("in the second", Calls.find(x, 1, "y"), 200);
        Check.due("in the third too", Calls.find(x, 3, "y"), 301);
        Check.due("behind all mounts", Calls.find(x, 4, "y"), -1);
        Check.due("far behind all mounts", Calls.find(x, Integer.MAX_VALUE, "y"), -1);
        Check.due("only in the outer archive", Calls.find(x, 1, "in0"), -1);
        Check.due("no name", x.find(1), -1);
        for (int m : new int[] {0, -1, Integer.MIN_VALUE}) {
            Calls.type(x, "y");
            Check.throwsArgument("find(" + m + ")", () -> x.find(m));
            Check.due("the name is used by what throws", x.find(1), -1);
        }
        Calls.type(x, "y");
        Check.due("the name is used: first", x.find(1), 200);
        Check.due("the name is used: then", x.find(1), -1);
        Check.due("what is no fault is not noted", x.fault(), 0);
        NestedArchives none = new NestedArchives();
        Check.due("find without an archive", Calls.find(none, 1, "y"), -1);
    }
}
