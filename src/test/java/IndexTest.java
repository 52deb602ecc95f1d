/** Promise 16: index. */
public final class IndexTest {
    public static void main(String[] args) {
        right();
        missing();
        lines();
        faults();
        order();
        Check.finish();
    }

    private static Maker outer(String index) {
        Maker maker = new Maker();
        for (int i = 0; i < 3; i++) {
            Maker inner = new Maker();
            inner.store("own" + i, "");
            inner.store("shared", "");
            maker.pack("lib/" + i + ".jar", inner.bytes());
        }
        maker.store("plain", "no archive");
        Maker disk = new Maker();
        disk.diskA = 1;
        maker.store("disk", disk.bytes());
        Maker bad = new Maker();
        bad.store("a", "");
        bad.store("b", "").localMark++;
        maker.store("bad", bad.bytes());
        maker.store("sum", "abc").sum ^= 1;
        maker.pack("index.txt", Maker.text(index));
        return maker;
    }

    private static String line(String name) {
        return "- \"" + name + "\"\n";
    }

    private static void right() {
        NestedArchives x = Calls.opened(outer(line("lib/2.jar") + line("lib/0.jar") + line("lib/2.jar")));
        x.mount(1);
        x.mount(1);
        x.mount(1);
        x.mount(1);
        Check.due("index()", x.index(), 3);
        Check.due("the mounts before are gone", x.count(-1), 4);
        Check.due("the first", Calls.find(x, 1, "own2"), 100);
        Check.due("the second", Calls.find(x, 1, "own0"), 200);
        Check.due("the third", Calls.find(x, 2, "own2"), 300);
        Check.due("none", Calls.find(x, 1, "own1"), -1);
        Check.due("again", x.index(), 3);
        Check.due("again: the second", Calls.find(x, 1, "own0"), 200);
        Check.due("a mount behind them", x.mount(1), 4);
        Check.due("a mount behind them: what it has", Calls.find(x, 1, "own1"), 400);
        Check.due("a mount behind them leaves the first", Calls.find(x, 1, "own2"), 100);
        Check.due("a mount behind them leaves the second", Calls.find(x, 1, "own0"), 200);
        Check.due("a mount behind them leaves the third", Calls.find(x, 2, "own2"), 300);
        Check.due("no fault", x.fault(), 0);
        NestedArchives six = Calls.opened(outer(line("lib/1.jar").repeat(6)));
        Check.due("six lines", six.index(), 6);
        Check.due("six lines: the sixth", Calls.find(six, 6, "own1"), 600);
        NestedArchives none = Calls.opened(outer(""));
        none.mount(0);
        Check.due("no lines", none.index(), 0);
        Check.due("no lines: no mounts", none.count(-1), 1);
    }

    private static void missing() {
        NestedArchives x = new NestedArchives();
        Check.throwsState("without an archive", x::index);
        Maker maker = new Maker();
        maker.store("Index.txt", "");
        Calls.open(x, maker);
        Check.fault("without an index", x, x::index, 11, -1);
        Maker wrong = outer(line("lib/1.jar"));
        wrong.items.get(7).sum ^= 1;
        Calls.open(x, wrong);
        Check.fault("an index that can't be read", x, x::index, 9, 7);
        wrong.items.get(7).flags = 1;
        Calls.open(x, wrong);
        Check.fault("an index that is odd", x, x::index, 6, 7);
    }

    /** A fault of an index leaves the mounts as they were. */
    private static void wrong(String index, int fault, int place) {
        NestedArchives x = Calls.opened(outer(index));
        x.mount(2);
        x.mount(0);
        String what = index.replace("\n", "|");
        Check.fault(what, x, x::index, fault, place);
        Check.due(what + ": count(-1)", x.count(-1), 3);
        Check.due(what + ": the first mount", Calls.find(x, 1, "own2"), 100);
        Check.due(what + ": the second mount", Calls.find(x, 1, "own0"), 200);
    }

    private static void lines() {
        String good = line("lib/1.jar");
        wrong("- \"lib/1.jar\"", 11, 0);
        wrong(good + "- \"lib/1.jar\"", 11, 1);
        wrong(good + "- \"lib/1.jar", 11, 1);
        wrong("- \"lib/1.jar\"\r\n", 11, 0);
        wrong(good + "\n", 11, 1);
        wrong("\n" + good, 11, 0);
        wrong("-\"lib/1.jar\"\n", 11, 0);
        wrong(" - \"lib/1.jar\"\n", 11, 0);
        wrong("+ \"lib/1.jar\"\n", 11, 0);
        wrong("- lib/1.jar\n", 11, 0);
        wrong("- 'lib/1.jar'\n", 11, 0);
        wrong("- \"\"\n", 11, 0);
        wrong("- \"lib\"1.jar\"\n", 11, 0);
        wrong("- \"lib/1.jar\n", 11, 0);
        wrong("- \"lib/1.jar\" \n", 11, 0);
        wrong("-", 11, 0);
        wrong("- ", 11, 0);
        wrong("- \"", 11, 0);
        wrong("- \"\n\"\n", 11, 0);
        wrong(good.repeat(7), 11, 6);
        wrong(good.repeat(8), 11, 6);
        wrong(good.repeat(6) + "x", 11, 6);
        wrong(good.repeat(4) + "x\n" + good.repeat(5), 11, 4);
    }

    private static void faults() {
        String good = line("lib/1.jar");
        wrong(line("lib/1.ja"), 12, 0);
        wrong(good + line("lib/1.jarr"), 12, 1);
        wrong(good + line("LIB/1.jar"), 12, 1);
        wrong(good + line(" "), 12, 1);
        wrong(good + line("x".repeat(41)), 12, 1);
        wrong(good + good + line("\0\u00ff\r"), 12, 2);
        wrong(good + line("plain"), 1, 1);
        wrong(good + good + line("disk"), 2, 2);
        wrong(good + good + good + line("bad"), 5, 3);
        wrong(good.repeat(5) + line("sum"), 9, 5);
        wrong(line("sum"), 9, 0);
        wrong(line("index.txt"), 1, 0);
    }

    /** The whole index must be one ahead of what its lines name. */
    private static void order() {
        wrong(line("nobody") + "x\n", 11, 1);
        wrong(line("plain") + line("lib/1.jar").repeat(6), 11, 6);
        wrong(line("plain") + line("nobody"), 1, 0);
        wrong(line("nobody") + line("plain"), 12, 0);
    }
}
