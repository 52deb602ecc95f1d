import java.util.zip.Deflater;

/** Promises 17 and 18: attribute with the fault 10, value. */
public final class AttributeTest {
    private static final String NAME = "META-INF/MANIFEST.MF";

    public static void main(String[] args) {
        right();
        joining();
        wrongOnes();
        lengths();
        archives();
        keeping();
        many();
        Check.finish();
    }

    private static NestedArchives with(String manifest) {
        Maker maker = new Maker();
        maker.store("first", "");
        maker.pack(NAME, Maker.text(manifest));
        return Calls.opened(maker);
    }

    private static String shown(String manifest) {
        String line = manifest.replace("\n", "|").replace("\r", "<");
        return line.substring(0, Math.min(line.length(), 200));
    }

    private static void due(String manifest, String name, String value) {
        NestedArchives x = with(manifest);
        String what = name + " in " + shown(manifest);
        Check.due(what, Calls.attribute(x, 0, name), value.length());
        Check.due(what + ": value", Calls.values(x), value);
        Check.due(what + ": fault()", x.fault(), 0);
    }

    private static void none(String manifest, String name) {
        NestedArchives x = with(manifest);
        String what = name + " in " + shown(manifest);
        Check.due(what, Calls.attribute(x, 0, name), -1);
        Check.due(what + ": value", x.value(0), -1);
        Check.due(what + ": fault()", x.fault(), 0);
    }

    private static void wrong(String manifest) {
        NestedArchives x = with(manifest);
        Calls.type(x, "A");
        Check.fault(shown(manifest), x, () -> x.attribute(0), 10, 1);
        Check.due("the name is used by what throws", x.number(0), -1);
    }

    private static void right() {
        due("Main-Class: a.b.C\r\nA_9: two words \r\n\r\n", "Main-Class", "a.b.C");
        due("Main-Class: a.b.C\r\nA_9: two words \r\n\r\n", "a_9", "two words ");
        due("Main-Class: a.b.C\nx: y", "MAIN-cLASS", "a.b.C");
        due("Main-Class: a.b.C\nx: y", "X", "y");
        due("A: \n", "A", "");
        due("A: ", "A", "");
        due("A:  : \n", "A", " : ");
        due("A: \0\u00ff\t\n", "A", "\0\u00ff\t");
        due("A: b\r", "A", "b\r");
        due("A: b\r\r\n", "A", "b\r");
        due("A: b\rC: d\n", "A", "b\rC: d");
        due("-: 1\n_: 2\n0: 3\n", "_", "2");
        due("aZ-Az_09: b\n", "Az-aZ_09", "b");
        due("Z: b\n", "z", "b");
        due("z: b\n", "Z", "b");
        none("A: b\n", "B");
        none("A: b\n", "AA");
        none("AA: b\n", "A");
        none("A-: b\n", "A");
        none("A: b\n", "A:");
        none("A: b\n", "");
        none("", "A");
        none("\n", "A");
        none("\r\nA: b\n", "A");
        none("B: b\n\nA: c\n", "A");
        none("B: b\r\n\r\nA: c\r\n", "A");
        due("A: b\n\nno line\n x\nA: b\n", "A", "b");
        due("A: b\n\n\n blank\n", "A", "b");
        due("a1: b\nA2: c\n", "A2", "c");
        none("K: b\n", "k@");
    }

    private static void joining() {
        due("A: b\n c\n", "A", "bc");
        due("A: b\r\n c\r\n  d\r\nB: e\r\n", "A", "bc d");
        due("A: b\n \nB: c\n", "A", "b");
        due("A: b\n \n c", "A", "bc");
        due("Na\n me: v\n", "name", "v");
        due("Name\n : v\n", "name", "v");
        due("Name:\n  v\n", "name", "v");
        due("Name: \n v", "name", "v");
        due("N\n ame: v", "name", "v");
        due("A: 1\nB: 2\n 3\n\nC: 4", "B", "23");
        none("A: 1\n B: 2\n", "B");
    }

    private static void wrongOnes() {
        wrong("A\n");
        wrong("A:\n");
        wrong("A:b\n");
        wrong("A:\tb\n");
        wrong(": b\n");
        wrong("A b: c\n");
        wrong("A.b: c\n");
        wrong("\u00c4: c\n");
        wrong("@: c\n");
        wrong("[: c\n");
        wrong("`: c\n");
        wrong("{: c\n");
        wrong("/: c\n");
        wrong("::  c\n");
        wrong("\r");
        wrong("A: b\n\r");
        wrong("A: b\nB\n");
        wrong("A: b\nB:");
        wrong("A: b\nA: b\n");
        wrong("A: b\nB: c\na: b\n");
        wrong("Ab-C: b\naB-c: c");
        wrong("Z: b\nz: c");
        wrong("B: 1\nb\n : 2\nA: 3\n");
        wrong(" A: b\n");
        wrong(" \nA: b\n");
        wrong(" ");
    }

    private static void lengths() {
        String full = "A: " + "x".repeat(69);
        due(full, "A", "x".repeat(69));
        due(full + "\r\n", "A", "x".repeat(69));
        due(full + "\n " + "y".repeat(71) + "\n", "A", "x".repeat(69) + "y".repeat(71));
        due("A: b\n\n" + "y".repeat(72) + "\r\n" + "z".repeat(72), "A", "b");
        wrong(full + "x");
        wrong(full + "x\n");
        wrong(full + "\r");
        wrong(full + "\r\r\n");
        wrong("A: b\n " + "y".repeat(72) + "\n");
        wrong("A: b\n\n" + "y".repeat(73) + "\r\n");
        wrong("A: b\n\n" + "y".repeat(73));
        wrong("\n" + " ".repeat(73));
        String name = "n".repeat(40);
        due(name + ": 1\n" + name + "n: 2\n", name, "1");
    }

    private static void archives() {
        Maker inner = new Maker();
        inner.store(NAME, "Where: inner\n");
        Maker maker = new Maker();
        maker.store("in", inner.bytes());
        maker.store("META-INF/manifest.mf", "Where: small\n");
        NestedArchives x = new NestedArchives();
        Calls.type(x, "Where");
        Check.throwsIndex("without an archive", () -> x.attribute(0));
        Calls.open(x, maker);
        Check.due("the name is used by what throws", x.attribute(0), -1);
        x.mount(0);
        Check.due("a mount's", Calls.attribute(x, 1, "where"), 5);
        Check.due("a mount's value", Calls.values(x), "inner");
        Check.due("no manifest", Calls.attribute(x, 0, "where"), -1);
        Check.due("nothing is kept then", x.value(0), -1);
        for (int m : new int[] {-1, 2, Integer.MIN_VALUE, Integer.MAX_VALUE}) {
            Check.throwsIndex("attribute(" + m + ")", () -> x.attribute(m));
        }
        Check.due("no fault", x.fault(), 0);
    }

    private static void keeping() {
        Maker bad = new Maker();
        bad.store("x", "");
        bad.store("y", "");
        bad.store(NAME, "A: b\n").sum ^= 1;
        Maker wrong = new Maker();
        wrong.store(NAME, "A\n");
        Maker maker = new Maker();
        maker.store("bad", bad.bytes());
        maker.store("wrong", wrong.bytes());
        maker.store(NAME, "A: kept\n");
        NestedArchives x = Calls.opened(maker);
        x.mount(0);
        x.mount(1);
        Check.due("kept", Calls.attribute(x, 0, "A"), 4);
        Check.due("value(0)", x.value(0), 'k');
        Check.due("value(3)", x.value(3), 't');
        Check.due("value(4)", x.value(4), -1);
        Check.due("value(-1)", x.value(-1), -1);
        Check.due("value(min)", x.value(Integer.MIN_VALUE), -1);
        Check.due("value(max)", x.value(Integer.MAX_VALUE), -1);
        Check.fault("a manifest that can't be read", x, () -> x.attribute(1), 9, 2);
        Check.due("what throws keeps the value", Calls.values(x), "kept");
        Check.fault("a wrong manifest", x, () -> x.attribute(2), 10, 0);
        Check.due("what throws keeps the value", Calls.values(x), "kept");
        Check.throwsIndex("no archive", () -> x.attribute(3));
        Check.due("what throws keeps the value", Calls.values(x), "kept");
        x.read(0, 2);
        Check.due("read() keeps the value", Calls.values(x), "kept");
        Check.due("another one", Calls.attribute(x, 0, "B"), -1);
        Check.due("nothing is kept then", x.value(0), -1);
    }

    /** As many lines, and as long a value, as a manifest can have. */
    private static void many() {
        StringBuilder lines = new StringBuilder();
        String letters = "abcdefghijklmnopqrstuvwxyz0123456789-_";
        for (int i = 0; i < 38 && lines.length() < 7990; i++) {
            lines.append(letters.charAt(i)).append(": \n");
        }
        for (int i = 0; i < 1444 && lines.length() < 7990; i++) {
            lines.append(letters.charAt(i / 38)).append(letters.charAt(i % 38)).append(": ").append(i % 7).append('\n');
        }
        due(lines.toString(), "B0", "1");
        StringBuilder value = new StringBuilder("A: ");
        StringBuilder want = new StringBuilder();
        for (int i = 0; value.length() < 7998; i++) {
            value.append(i % 50 == 49 ? "\n " : "v");
            want.append(i % 50 == 49 ? "" : "v");
        }
        Maker maker = new Maker();
        maker.add(NAME, Maker.text(value.toString()),
                Maker.deflate(Maker.text(value.toString()), 9, Deflater.DEFAULT_STRATEGY), 8);
        NestedArchives x = Calls.opened(maker);
        Check.due("a long value", Calls.attribute(x, 0, "a"), want.length());
        Calls.valueIs("a long value", x, want.toString());
    }
}
