import java.util.zip.Deflater;

/** Promises 13 and 14: read with the faults 6 to 9, octet. */
public final class ReadTest {
    public static void main(String[] args) {
        right();
        faults();
        order();
        keeping();
        Check.finish();
    }

    private static void right() {
        Maker inner = new Maker();
        inner.pack("deep", Maker.text("deep deep deep deep"));
        byte[] many = new byte[8000];
        for (int i = 0; i < many.length; i++) {
            many[i] = (byte) (i / 100);
        }
        Maker maker = new Maker();
        maker.store("stored", new byte[] {0, -1, 127, -128});
        maker.pack("packed", Maker.text("abcabcabcabcabc"));
        maker.store("none", "");
        maker.pack("packed-none", new byte[0]);
        maker.pack("in", inner.bytes());
        maker.pack("many", many);
        maker.store("even-flags", "e").flags = 0xFFFE;
        NestedArchives x = Calls.opened(maker);
        Check.due("stored", x.read(0, 0), 4);
        Check.due("octets", Calls.octets(x), "\0\u00ff\u007f\u0080");
        Check.due("octet(4)", x.octet(4), -1);
        Check.due("octet(-1)", x.octet(-1), -1);
        Check.due("octet(min)", x.octet(Integer.MIN_VALUE), -1);
        Check.due("octet(max)", x.octet(Integer.MAX_VALUE), -1);
        Check.due("packed", x.read(0, 1), 15);
        Check.due("octets", Calls.octets(x), "abcabcabcabcabc");
        Check.due("none", x.read(0, 2), 0);
        Check.due("no octet", x.octet(0), -1);
        Check.due("packed none", x.read(0, 3), 0);
        Check.due("8000", x.read(0, 5), 8000);
        Check.due("the last octet", x.octet(7999), 79);
        Check.due("behind the last octet", x.octet(8000), -1);
        Check.due("even flags", x.read(0, 6), 1);
        x.mount(4);
        Check.due("of a mount", x.read(1, 0), 19);
        Check.due("octets", Calls.octets(x), "deep deep deep deep");
        for (int out : new int[] {-1, 7, Integer.MIN_VALUE, Integer.MAX_VALUE}) {
            Check.throwsIndex("read(0, " + out + ")", () -> x.read(0, out));
            Check.throwsIndex("read(" + out + ", 0)", () -> x.read(out, 0));
        }
        Check.due("no fault", x.fault(), 0);
    }

    private static void faults() {
        byte[] content = Maker.text("some content, some content");
        byte[] packed = Maker.deflate(content, 9, Deflater.DEFAULT_STRATEGY);
        Maker maker = new Maker();
        maker.store("right", content);
        maker.store("odd", content).flags = 0x8001;
        maker.store("method1", content).method = 1;
        maker.store("method9", content).method = 9;
        maker.store("method264", content).method = 264;
        maker.store("big", content).size = 8001;
        maker.store("huge", content).size = 0xFFFFFFFFL;
        maker.store("sizes", content).size = 25;
        maker.store("sizes2", content).size = 27;
        maker.pack("short", content).size = 27;
        maker.pack("long", content).size = 25;
        maker.add("behind", content, java.util.Arrays.copyOf(packed, packed.length + 1), 8);
        maker.add("cut", content, java.util.Arrays.copyOf(packed, packed.length - 1), 8);
        maker.add("empty", new byte[0], new byte[0], 8);
        maker.store("sum", content).sum ^= 1;
        maker.pack("sum2", content).sum ^= 0x80000000L;
        int[] due = {0, 6, 6, 6, 6, 7, 7, 8, 8, 8, 8, 8, 8, 8, 9, 9};
        NestedArchives x = Calls.opened(maker);
        Check.due("the right one", x.read(0, 0), 26);
        for (int k = 1; k < due.length; k++) {
            int entry = k;
            String name = new String(maker.items.get(k).name);
            Check.fault(name, x, () -> x.read(0, entry), due[k], k);
            Check.due(name + " leaves what was read", x.octet(25), 't');
        }
    }

    private static void order() {
        Maker maker = new Maker();
        Maker.Item all = maker.store("all", "abc");
        all.flags = 1;
        all.size = 9000;
        all.sum ^= 1;
        Maker.Item three = maker.store("three", "abc");
        three.size = 9000;
        three.sum ^= 1;
        Maker.Item two = maker.store("two", "abc");
        two.size = 2;
        two.sum ^= 1;
        NestedArchives x = Calls.opened(maker);
        Check.fault("6 ahead of 7", x, () -> x.read(0, 0), 6, 0);
        Check.fault("7 ahead of 8", x, () -> x.read(0, 1), 7, 1);
        Check.fault("8 ahead of 9", x, () -> x.read(0, 2), 8, 2);
    }

    private static void keeping() {
        Maker inner = new Maker();
        inner.store("other", "other");
        Maker maker = new Maker();
        maker.store("kept", "kept");
        maker.store("in", inner.bytes());
        maker.store("index.txt", "- \"in\"\n");
        maker.store("META-INF/MANIFEST.MF", "A: 1\n");
        NestedArchives x = Calls.opened(maker);
        x.read(0, 0);
        x.mount(1);
        Check.due("mount() keeps what was read", Calls.octets(x), "kept");
        x.index();
        Check.due("index() keeps what was read", Calls.octets(x), "kept");
        Calls.attribute(x, 0, "A");
        Check.due("attribute() keeps what was read", Calls.octets(x), "kept");
        Calls.attribute(x, 1, "A");
        Check.due("attribute() without a manifest keeps it", Calls.octets(x), "kept");
    }
}
