/** Promise 16 at its edges: how many lines there are, every byte of a line, how long a name is, which mounts go. */
public final class IndexEdgeTest {
    private static final String FORTY = "abcdefghijklmnopqrstuvwxyzABCDEFGHIJKLMN";

    public static void main(String[] args) {
        lines();
        names();
        again();
        another();
        Check.finish();
    }

    private static String line(String name) {
        return "- \"" + name + "\"\n";
    }

    private static NestedArchives indexed(String index, String... names) {
        Maker inner = new Maker();
        inner.store("i", "");
        Maker maker = new Maker();
        for (String name : names) {
            maker.pack(name, inner.bytes());
        }
        maker.pack("index.txt", Maker.text(index));
        return Calls.opened(maker);
    }

    private static void lines() {
        for (int n = 0; n <= 9; n++) {
            NestedArchives x = indexed(line("a").repeat(n), "a");
            if (n <= 6) {
                Check.due(n + " lines", Check.answer(x::index), Integer.toString(n));
                Check.due(n + " lines: count(-1)", x.count(-1), 1 + n);
                if (n < 6) {
                    Check.due(n + " lines: the next mount", x.mount(0), n + 1);
                } else {
                    Check.throwsState(n + " lines: a seventh", () -> x.mount(0));
                }
            } else {
                Check.fault(n + " lines", x, x::index, 11, 6);
                Check.due(n + " lines: count(-1)", x.count(-1), 1);
            }
        }
        for (int n = 0; n <= 6; n++) {
            NestedArchives x = indexed(line("a").repeat(n) + "x", "a");
            Check.fault(n + " lines and a wrong one", x, x::index, 11, n);
            NestedArchives y = indexed(line("a").repeat(n) + "- \"a\"", "a");
            Check.fault(n + " lines and one without an end", y, y::index, 11, n);
        }
        // Each byte of a line but those of the name, changed, left out, or doubled.
        String line = line("a");
        for (int i = 0; i < line.length(); i++) {
            if (i == 3) {
                continue;
            }
            String[] others = {line.substring(0, i) + "?" + line.substring(i + 1), line.substring(0, i) + line.substring(i + 1),
                line.substring(0, i + 1) + line.substring(i), line.substring(0, i)};
            for (String other : others) {
                if (!other.isEmpty()) {
                    NestedArchives x = indexed(line + other, "a");
                    Check.fault(other.replace("\n", "|"), x, x::index, 11, i == 5 && other.endsWith("\n\n") ? 2 : 1);
                }
            }
        }
    }

    private static void names() {
        for (int b = 0; b < 256; b++) {
            for (String name : new String[] {"" + (char) b, "a" + (char) b, (char) b + "a"}) {
                NestedArchives x = indexed(line("a") + line(name), "a");
                boolean isThere = name.equals("a");
                boolean isLine = b != 34 && b != 10;
                if (isThere) {
                    Check.due("a name with " + b, Check.answer(x::index), "2");
                } else {
                    Check.fault("a name with " + b, x, x::index, isLine ? 12 : 11, 1);
                }
            }
            if (b >= 33 && b <= 126 && b != 34) {
                NestedArchives y = indexed(line("" + (char) b), "" + (char) b);
                Check.due("the name " + b, Check.answer(y::index), "1");
            }
        }
        NestedArchives none = indexed(line(""), "a");
        Check.fault("no name", none, none::index, 11, 0);
        NestedArchives x = indexed(line(FORTY), FORTY);
        Check.due("a name of 40", Check.answer(x::index), "1");
        for (String name : new String[] {FORTY + "x", FORTY.substring(1), FORTY.substring(0, 39), FORTY + FORTY, "x".repeat(7995)}) {
            NestedArchives y = indexed(line(name), FORTY);
            Check.fault("a name of " + name.length(), y, y::index, 12, 0);
        }
        NestedArchives y = indexed(line("x".repeat(7989)) + line("a"), "a");
        Check.fault("an index of 8000 bytes", y, y::index, 12, 0);
        NestedArchives z = indexed(line("x".repeat(7996)), "a");
        Check.fault("an index of 8001 bytes", z, z::index, 7, 1);
        NestedArchives own = indexed(line("index.txt"));
        Check.fault("the index itself", own, own::index, 1, 0);
    }

    /** The mounts go, be there more or fewer before, and come in the index's order. */
    private static void again() {
        for (int before = 0; before <= 6; before++) {
            for (int n : new int[] {0, 1, 6}) {
                NestedArchives x = indexed(line("a").repeat(n), "b", "a");
                for (int i = 1; i <= before; i++) {
                    Check.due("mount " + i, x.mount(0), i);
                }
                Check.due(n + " behind " + before, x.index(), n);
                Check.due(n + " behind " + before + ": count(-1)", x.count(-1), 1 + n);
                Check.due(n + " behind " + before + ": count(n)", x.count(n + 1), -1);
                Check.due(n + " behind " + before + ", again", x.index(), n);
                Check.due(n + " behind " + before + ", again: count(-1)", x.count(-1), 1 + n);
            }
        }
    }

    /** One index after the other: nothing of the one before is left. */
    private static void another() {
        String good = line("a");
        String[] indexes = {good.repeat(6), "", good.repeat(3), "x", good.repeat(2) + "x", good, good.repeat(7), line("b"), ""};
        String[] due = {"6", "0", "3", "11 0", "11 2", "1", "11 6", "12 0", "0"};
        NestedArchives x = new NestedArchives();
        for (int i = 0; i < indexes.length; i++) {
            Maker inner = new Maker();
            inner.store("i", "");
            Maker maker = new Maker();
            maker.store("a", inner.bytes());
            maker.store("index.txt", indexes[i]);
            Calls.open(x, maker);
            Check.due("index " + i + ": no mount yet", x.count(-1), 1);
            String answer = Check.answer(x::index);
            boolean threw = answer.equals("IllegalArgumentException");
            Check.due("index " + i, threw ? x.fault() + " " + x.place() : answer, due[i]);
            Check.due("index " + i + ": count(-1)", x.count(-1), threw ? 1 : 1 + Integer.parseInt(answer));
        }
    }
}
