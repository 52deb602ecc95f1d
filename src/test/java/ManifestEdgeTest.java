/** Promises 17 and 18 with the term 'a manifest' at its edges: every byte of a name and of a value, ends, lengths, faults. */
public final class ManifestEdgeTest {
    private static final String MANIFEST = "META-INF/MANIFEST.MF";
    private static final String FORTY = "abcdefghijklmnopqrstuvwxyzABCDEFGHIJKLMN";

    public static void main(String[] args) {
        names();
        values();
        letters();
        lengths();
        faults();
        again();
        Check.finish();
    }

    private static NestedArchives with(String manifest) {
        Maker maker = new Maker();
        maker.store("first", "");
        maker.pack(MANIFEST, Maker.text(manifest));
        return Calls.opened(maker);
    }

    private static void due(String what, String manifest, String name, String value) {
        NestedArchives x = with(manifest);
        Calls.type(x, name);
        Check.due(what, Check.answer(() -> x.attribute(0)), Integer.toString(value.length()));
        Calls.valueIs(what, x, value);
        Check.due(what + ": fault()", x.fault(), 0);
    }

    private static void none(String what, String manifest, String name) {
        NestedArchives x = with(manifest);
        Calls.type(x, name);
        Check.due(what, Check.answer(() -> x.attribute(0)), "-1");
        Check.due(what + ": value", x.value(0), -1);
        Check.due(what + ": fault()", x.fault(), 0);
    }

    private static void wrong(String what, String manifest) {
        NestedArchives x = with(manifest);
        Calls.type(x, "A");
        Check.fault(what, x, () -> x.attribute(0), 10, 1);
        Check.due(what + ": value", x.value(0), -1);
    }

    private static boolean isNameByte(int b) {
        return "ABCDEFGHIJKLMNOPQRSTUVWXYZabcdefghijklmnopqrstuvwxyz0123456789-_".indexOf(b) >= 0;
    }

    private static void names() {
        for (int b = 0; b < 256; b++) {
            String name = "" + (char) b;
            if (isNameByte(b)) {
                due("the name " + b, name + ": v\n", name, "v");
                due("a name with " + b, "x" + name + "x: v\n", "x" + name + "x", "v");
            } else if (b == 10) {
                none("an empty line ahead of the name", "\n: v\n", "v");
                wrong("an empty name", ": v\n");
            } else {
                wrong("the name " + b, name + ": v\n");
                wrong("a name that begins with " + b, name + "x: v\n");
                wrong("a name that ends with " + b, "A: b\nx" + name + ": v\n");
            }
            if (b != 58) {
                wrong(b + " for the colon", "A: b\nB" + name + (isNameByte(b) ? "  v\n" : " v\n"));
            }
            if (b != 32) {
                wrong(b + " for the blank", "A: b\nB:" + name + "v\n");
            }
        }
        due("a name of 40", FORTY + ": v\n", FORTY, "v");
        due("names of 39, 40 and 41", FORTY.substring(1) + ": 39\n" + FORTY + "x: 41\n" + FORTY + ": 40\n", FORTY, "40");
        none("a name of 41", FORTY + "x: v\n", FORTY);
        none("no name typed", "A: v\n", "");
        due("a name of 69 beside it", "x".repeat(69) + ":  \nA: v\n", "A", "v");
        due("a name of 70 bytes, and a blank in the next line", "A: v\n" + "x".repeat(70) + ":\n  \n", "A", "v");
        due("a name of many lines", "A: v\n" + "x".repeat(72) + "\n " + "y".repeat(71) + "\n : w\n", "A", "v");
    }

    private static void values() {
        for (int b = 0; b < 256; b++) {
            if (b != 10) {
                String value = "x" + (char) b + "y";
                due("a value with " + b, "A: " + value + "\nB: c\n", "A", value);
                due("a value of " + b, "A: " + (char) b, "A", "" + (char) b);
            }
        }
        due("no value", "A: \nB: c\n", "A", "");
        due("no value and nothing behind it", "A: ", "A", "");
        due("a value of a blank", "A:  ", "A", " ");
        due("the last line ended by 13, 10", "A: v\r\n", "A", "v");
        due("the last line ended by 10", "A: v\n", "A", "v");
        due("the last line ended by the end", "A: v", "A", "v");
        due("13 without 10 is no end", "A: v\r", "A", "v\r");
        due("13, 13, 10 is one end", "A: v\r\r\nB: c", "A", "v\r");
        due("10, 13, 10: the second line is empty", "A: v\n\r\nno line", "A", "v");
        wrong("10, 13: the second line is 13", "A: v\n\r");
        due("a line that goes on with nothing", "A: v\n \nB: c", "A", "v");
        due("a line that goes on with a blank", "A: v\n  \nB: c", "A", "v ");
        due("a line that goes on with 13", "A: v\n \r\n w", "A", "vw");
        due("the last main line goes on", "B: c\nA: v\n w\n\n x", "A", "vw");
        none("a line of a blank is not empty", "B: c\n \n\nA: v\n", "A");
        due("and the lines go on behind it", "B: c\n \nA: v\n", "A", "v");
    }

    /** Capitals like small letters, and nothing else like anything. */
    private static void letters() {
        for (int b = 33; b <= 126; b++) {
            if (!isNameByte(b)) {
                continue;
            }
            String manifest = "n" + (char) b + ": v\n";
            NestedArchives x = with(manifest);
            for (int typed = 33; typed <= 126; typed++) {
                boolean same = Character.toLowerCase(b) == Character.toLowerCase(typed);
                Check.due("n" + (char) typed + " in n" + (char) b, Calls.attribute(x, 0, "N" + (char) typed), same ? 1 : -1);
            }
        }
        for (int b = 33; b <= 126; b++) {
            for (int c = 33; c <= 126; c++) {
                if (isNameByte(b) && isNameByte(c)) {
                    boolean same = Character.toLowerCase(b) == Character.toLowerCase(c);
                    String manifest = "x" + (char) b + ": 1\nX" + (char) c + ": 2\nA: v\n";
                    if (same) {
                        wrong((char) b + " and " + (char) c, manifest);
                    } else {
                        due((char) b + " and " + (char) c, manifest, "A", "v");
                    }
                }
            }
        }
        wrong("the first name once more, as the last", "A: 1\nB: 2\nC: 3\nA: 4");
        wrong("the second name once more", "A: 1\nB: 2\nb: 3");
        wrong("the second name once more, as the last", "A: 1\nB: 2\nC: 3\nb: 4");
        wrong("the name before once more", "A: 1\nBb: 2\nCCC: 3\ncCc: 4\nD: 5");
        wrong("a name of more than 40 once more", "A: 1\n" + FORTY + "x: 2\n" + FORTY + "X: 3\n");
        due("names of more than 40 that differ in the last letter", "A: 1\n" + FORTY + "x: 2\n" + FORTY + "y: 3\n", "A", "1");
        wrong("a name of two lines once more", "A: 1\nName: 2\nNa\n me: 3\n");
        due("the same name behind the main lines", "A: 1\n\nA: 2\n\nA: 3", "A", "1");
        due("a name that goes on behind another", "A: 1\nAA: 2\nAAA: 3\n", "AA", "2");
    }

    private static void lengths() {
        for (String end : new String[] {"", "\n", "\r\n"}) {
            for (int n = 71; n <= 74; n++) {
                String what = n + " bytes and " + end.length() + " more";
                String first = "A: " + "v".repeat(n - 3) + end;
                String next = "A: v\n " + "w".repeat(n - 1) + end;
                String behind = "A: v\n\n" + "z".repeat(n) + end;
                String last = "A: v\r\n\r\nx\r\n" + " ".repeat(n) + end;
                if (n <= 72) {
                    due("the first line of " + what, first, "A", "v".repeat(n - 3));
                    due("the next line of " + what, next, "A", "v" + "w".repeat(n - 1));
                    due("a line behind of " + what, behind, "A", "v");
                    due("the last line of " + what, last, "A", "v");
                } else {
                    wrong("the first line of " + what, first);
                    wrong("the next line of " + what, next);
                    wrong("a line behind of " + what, behind);
                    wrong("the last line of " + what, last);
                }
            }
        }
        wrong("72 bytes and 13 at the end", "A: " + "v".repeat(69) + "\r");
        wrong("72 bytes and 13, 13, 10", "A: " + "v".repeat(69) + "\r\r\n");
        due("71 bytes and 13 at the end", "A: " + "v".repeat(68) + "\r", "A", "v".repeat(68) + "\r");
        none("no lines", "", "A");
        none("an empty line", "\n", "A");
        none("an empty line by 13, 10", "\r\n", "A");
        none("empty lines ahead", "\n\nA: v\n", "A");
        wrong("13 alone", "\r");
        wrong("a blank alone", " ");
        wrong("a blank and an end", " \n");
        wrong("a first line that begins with a blank", " A: v\nA: w\n");
        wrong("a wrong line is not mended by what goes on behind another", "A\nB: c\n : v\n");
        wrong("a wrong line ahead of a right one", "B\nA: v\n");
        wrong("a wrong line between right ones", "B: c\n?: d\nA: v\n");
        wrong("a wrong line as the last main one", "A: v\nB\n\n");
        wrong("a name alone", "A");
        wrong("a name and a colon", "A:");
        due("a name, a colon and a blank", "A: ", "A", "");
        StringBuilder full = new StringBuilder("A: v\n\n");
        while (full.length() + 73 <= 8000) {
            full.append("z".repeat(72)).append('\n');
        }
        full.append("z".repeat(8000 - full.length()));
        due("a manifest of 8000 bytes", full.toString(), "A", "v");
        NestedArchives x = with(full + "z");
        Calls.type(x, "A");
        Check.fault("a manifest of 8001 bytes", x, () -> x.attribute(0), 7, 1);
    }

    private static void faults() {
        for (int fault = 6; fault <= 9; fault++) {
            for (String manifest : new String[] {"A: v\n", "wrong"}) {
                Maker maker = new Maker();
                maker.store("A", "");
                maker.store("other", "");
                Maker.Item item = maker.store(MANIFEST, manifest);
                item.flags = fault == 6 ? 1 : 0;
                item.size = fault == 7 ? 8001 : fault == 8 ? 4 : 5;
                item.sum ^= fault == 9 ? 1 : 0;
                NestedArchives x = Calls.opened(maker);
                Calls.type(x, "A");
                Check.fault("a manifest with fault " + fault, x, () -> x.attribute(0), fault, 2);
                Check.due("the name is used", x.number(0), -1);
            }
        }
        NestedArchives x = with("A: v\nB: w\n");
        Check.due("kept", Calls.attribute(x, 0, "B"), 1);
        Check.due("kept: value(0)", x.value(0), 'w');
        Check.due("no such one", Calls.attribute(x, 0, "C"), -1);
        Check.due("no such one: value(0)", x.value(0), -1);
        Check.due("kept again", Calls.attribute(x, 0, "A"), 1);
        Check.due("no name", x.attribute(0), -1);
        Check.due("no name: value(0)", x.value(0), -1);
        Check.due("kept again", Calls.attribute(x, 0, "A"), 1);
        Calls.open(x, new Maker());
        Check.due("no manifest", Calls.attribute(x, 0, "A"), -1);
        Check.due("no manifest: value(0)", x.value(0), -1);
    }

    /** One manifest after the other: nothing of the one before is left. */
    private static void again() {
        StringBuilder lines = new StringBuilder("A: v\n");
        for (int i = 0; i < 100; i++) {
            lines.append("Name-").append(i).append(": ").append("w".repeat(60)).append('\n');
        }
        NestedArchives x = with(lines.toString());
        for (int i = 0; i < 10; i++) {
            Check.due("call " + i, Check.answer(() -> Calls.attribute(x, 0, "name-99")), "60");
            Check.due("call " + i + ": value(59)", x.value(59), 'w');
            Check.due("call " + i + ": value(60)", x.value(60), -1);
            Check.due("call " + i + ", a shorter one", Check.answer(() -> Calls.attribute(x, 0, "a")), "1");
            Check.due("call " + i + ", a shorter one: value(1)", x.value(1), -1);
        }
        Maker maker = new Maker();
        String[] manifests = {"A: 1\nB: 2\n", null, "A\n", "", "B: 5\n", "A: 66\n"};
        for (int i = 0; i < manifests.length; i++) {
            Maker inner = new Maker();
            inner.store(manifests[i] == null ? "none" : MANIFEST, manifests[i] == null ? "A: 7\n" : manifests[i]);
            maker.store("in" + i, inner.bytes());
        }
        NestedArchives y = Calls.opened(maker);
        for (int i = 0; i < manifests.length; i++) {
            y.mount(i);
        }
        String[] due = {"1", "-1", "IllegalArgumentException", "-1", "-1", "2"};
        String[] value = {"1", "", null, "", "", "66"};
        String kept = "";
        for (int from = 0; from < manifests.length; from++) {
            for (int i = 0; i < manifests.length; i++) {
                int m = 1 + (i * (1 + from % 2 * 4) + from) % manifests.length;
                Check.due("manifest " + m, Check.answer(() -> Calls.attribute(y, m, "A")), due[m - 1]);
                kept = value[m - 1] == null ? kept : value[m - 1];
                Check.due("manifest " + m + ": value", Calls.values(y), kept);
            }
        }
    }
}
