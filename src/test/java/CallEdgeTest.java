/** Promises 4 to 15 at their edges: empty and full archives, mounts and names, every byte of them, sizes and sums. */
public final class CallEdgeTest {
    private static final String FORTY = "abcdefghijklmnopqrstuvwxyzABCDEFGHIJKLMN";

    public static void main(String[] args) {
        emptyArchive();
        fullArchives();
        openAgain();
        typedBytes();
        typedLengths();
        flagsAndMethods();
        sizes();
        sums();
        Check.finish();
    }

    private static void emptyArchive() {
        NestedArchives x = Calls.opened(new Maker());
        Check.due("empty: count(-1)", x.count(-1), 1);
        Check.due("empty: count(0)", x.count(0), 0);
        Check.due("empty: count(1)", x.count(1), -1);
        Check.throwsIndex("empty: entry", () -> x.entry(0, 0, 0));
        Check.throwsIndex("empty: letter", () -> x.letter(0, 0, 0));
        Check.throwsIndex("empty: read", () -> x.read(0, 0));
        Check.throwsIndex("empty: mount", () -> x.mount(0));
        Check.due("empty: number of no name", x.number(0), -1);
        Check.due("empty: number", Calls.number(x, 0, "a"), -1);
        Check.due("empty: attribute of no name", x.attribute(0), -1);
        Check.due("empty: attribute", Calls.attribute(x, 0, "a"), -1);
        Check.due("empty: fault()", x.fault(), 0);
        Check.fault("empty: index", x, x::index, 11, -1);
        Maker around = new Maker();
        around.store("e", new Maker().bytes());
        around.store("index.txt", "");
        NestedArchives y = Calls.opened(around);
        Check.due("an empty mount", y.mount(0), 1);
        Check.due("an empty mount: count(1)", y.count(1), 0);
        Check.throwsIndex("an empty mount: entry", () -> y.entry(1, 0, 0));
        Check.throwsIndex("an empty mount: read", () -> y.read(1, 0));
        Check.due("an empty mount: find", Calls.find(y, 1, "e"), -1);
        Check.due("an empty mount: attribute", Calls.attribute(y, 1, "e"), -1);
        Check.due("an empty index", y.index(), 0);
        Check.due("an empty index: count(-1)", y.count(-1), 1);
        Check.due("an empty index: count(1)", y.count(1), -1);
    }

    /** 64 entries, one of them an archive of 64 entries, in six mounts. */
    private static NestedArchives sixTimes64() {
        Maker inner = new Maker();
        for (int i = 0; i < 64; i++) {
            inner.store("i" + i, "");
        }
        Maker maker = new Maker();
        for (int i = 0; i < 63; i++) {
            maker.store("o" + i, "");
        }
        maker.pack("last", inner.bytes());
        NestedArchives x = Calls.opened(maker);
        for (int i = 1; i <= 6; i++) {
            Check.due("mount " + i, x.mount(63), i);
        }
        return x;
    }

    private static void fullArchives() {
        NestedArchives x = sixTimes64();
        Check.due("full: count(-1)", x.count(-1), 7);
        Check.due("full: count(0)", x.count(0), 64);
        Check.due("full: count(6)", x.count(6), 64);
        Check.due("full: count(7)", x.count(7), -1);
        Check.throwsState("full: a seventh", () -> x.mount(63));
        Check.throwsIndex("full: a seventh of entry 64", () -> x.mount(64));
        Check.due("full: the last entry's name", x.entry(0, 63, 5), 4);
        Check.throwsIndex("full: entry 64", () -> x.entry(0, 64, 5));
        Check.due("full: the last entry of the last mount", x.entry(6, 63, 5), 3);
        Check.throwsIndex("full: entry 64 of the last mount", () -> x.entry(6, 64, 5));
        Check.throwsIndex("full: mount 7", () -> x.entry(7, 0, 5));
        Check.due("full: letter", x.letter(6, 63, 2), '3');
        Check.throwsIndex("full: letter of entry 64", () -> x.letter(6, 64, 0));
        Check.throwsIndex("full: letter of mount 7", () -> x.letter(7, 0, 0));
        Check.due("full: read", x.read(6, 63), 0);
        Check.throwsIndex("full: read of entry 64", () -> x.read(6, 64));
        Check.throwsIndex("full: read of mount 7", () -> x.read(7, 0));
        Check.due("full: number", Calls.number(x, 6, "i63"), 63);
        Check.throwsIndex("full: number in mount 7", () -> x.number(7));
        Check.due("full: find from 1", Calls.find(x, 1, "i63"), 163);
        Check.due("full: find from 6", Calls.find(x, 6, "i63"), 663);
        Check.due("full: find the first from 6", Calls.find(x, 6, "i0"), 600);
        Check.due("full: find from 7", Calls.find(x, 7, "i63"), -1);
        Check.due("full: find what the outer archive has", Calls.find(x, 1, "last"), -1);
        Check.due("full: attribute", Calls.attribute(x, 6, "a"), -1);
        Check.throwsIndex("full: attribute in mount 7", () -> x.attribute(7));
        Check.due("full: fault()", x.fault(), 0);
    }

    /** A second archive takes the place of all that belongs to the first one. */
    private static void openAgain() {
        Maker inner = new Maker();
        inner.store("i", "");
        Maker maker = new Maker();
        maker.store("in", inner.bytes());
        maker.store("more", "x");
        NestedArchives x = Calls.opened(maker);
        x.read(0, 1);
        for (int i = 1; i <= 6; i++) {
            Check.due("mount " + i, x.mount(0), i);
        }
        Maker other = new Maker();
        other.store("other", inner.bytes());
        Calls.open(x, other);
        Check.due("again: count(-1)", x.count(-1), 1);
        Check.due("again: count(0)", x.count(0), 1);
        Check.due("again: count(1)", x.count(1), -1);
        Check.throwsIndex("again: entry 1", () -> x.entry(0, 1, 0));
        Check.throwsIndex("again: mount 1", () -> x.entry(1, 0, 0));
        Check.due("again: nothing is read", x.octet(0), -1);
        Check.due("again: the old name", Calls.number(x, 0, "in"), -1);
        Check.due("again: the new name", Calls.number(x, 0, "other"), 0);
        Check.due("again: no mount is searched", Calls.find(x, 1, "i"), -1);
        for (int i = 1; i <= 6; i++) {
            Check.due("again: mount " + i, x.mount(0), i);
        }
        Check.throwsState("again: the seventh", () -> x.mount(0));
        Calls.open(x, new Maker());
        Check.due("an empty one: count(-1)", x.count(-1), 1);
        Check.due("an empty one: count(0)", x.count(0), 0);
    }

    private static void typedBytes() {
        for (int shift = 0; shift < 64; shift += 8) {
            for (int b = 0; b < 256; b++) {
                NestedArchives x = new NestedArchives();
                boolean fine = b == 0 || b >= 33 && b <= 126;
                String what = "byte " + b + " at bit " + shift;
                Check.due(what, x.type((long) b << shift), fine);
                // 40 letters less the one that is typed now, or none, can come behind it.
                int more = fine && b != 0 ? 39 : 40;
                for (int i = 0; i < more; i++) {
                    Check.due(what + ": letter " + i, x.type('a'), true);
                }
                Check.due(what + ": a letter too many", x.type('a'), false);
            }
        }
    }

    private static long word(String s) {
        long w = 0;
        for (int i = 0; i < s.length(); i++) {
            w = w << 8 | s.charAt(i);
        }
        return w;
    }

    private static void typedLengths() {
        Maker maker = new Maker();
        maker.store(FORTY.substring(0, 39), "");
        maker.store(FORTY, "");
        for (int have = 0; have <= 40; have++) {
            for (int more = 0; more <= 8; more++) {
                NestedArchives x = Calls.opened(maker);
                Calls.type(x, FORTY.substring(0, have));
                boolean fine = have + more <= 40;
                String next = (FORTY.substring(have) + "????????").substring(0, more);
                Check.due(more + " behind " + have, x.type(word(next)), fine);
                int now = fine ? have + more : have;
                Check.due(more + " behind " + have + ": number", x.number(0), now == 39 ? 0 : now == 40 ? 1 : -1);
            }
        }
        NestedArchives x = Calls.opened(maker);
        Check.due("letter 39 of 40", x.letter(0, 1, 39), 'N');
        Check.due("letter 40 of 40", x.letter(0, 1, 40), -1);
        Check.due("letter 38 of 39", x.letter(0, 0, 38), 'M');
        Check.due("letter 39 of 39", x.letter(0, 0, 39), -1);
        Check.due("letter -1", x.letter(0, 0, -1), -1);
        Check.due("the name's length", x.entry(0, 1, 5), 40);
        // A used name is empty: 40 letters can be typed again.
        Calls.type(x, FORTY);
        Check.due("the 41st", x.type('a'), false);
        Check.due("used by number", x.number(0), 1);
        Calls.type(x, FORTY);
        Check.due("used by find", x.find(1), -1);
        Calls.type(x, FORTY);
        Check.due("used by attribute", x.attribute(0), -1);
        Calls.type(x, FORTY);
        Check.throwsIndex("used by number that throws", () -> x.number(1));
        Calls.type(x, FORTY);
        Check.throwsArgument("used by find that throws", () -> x.find(0));
        Calls.type(x, FORTY);
        Check.throwsIndex("used by attribute that throws", () -> x.attribute(1));
        Calls.type(x, FORTY);
    }

    private static void flagsAndMethods() {
        int[] flags = {0, 1, 2, 3, 8, 255, 256, 257, 0x8000, 0x8001, 0xFFFE, 0xFFFF};
        int[] methods = {0, 8, 1, 7, 9, 12, 255, 256, 264, 0x800, 0x8000, 0xFFFF};
        for (int packed = 0; packed < 2; packed++) {
            Maker maker = new Maker();
            for (int flag : flags) {
                String name = "f" + flag;
                Maker.Item item = packed == 1 ? maker.pack(name, Maker.text("abc")) : maker.store(name, "abc");
                item.flags = flag;
            }
            NestedArchives x = Calls.opened(maker);
            for (int i = 0; i < flags.length; i++) {
                int k = i;
                if (flags[i] % 2 == 0) {
                    Check.due("flags " + flags[i], Check.answer(() -> x.read(0, k)), "3");
                } else {
                    Check.fault("flags " + flags[i], x, () -> x.read(0, k), 6, k);
                }
                Check.due("flags told", x.entry(0, i, 4), flags[i]);
            }
        }
        Maker maker = new Maker();
        for (int method : methods) {
            byte[] content = Maker.text("abc");
            maker.add("m" + method, content, method == 8 ? Maker.deflate(content, 9, 0) : content, method);
        }
        NestedArchives x = Calls.opened(maker);
        for (int i = 0; i < methods.length; i++) {
            int k = i;
            if (methods[i] == 0 || methods[i] == 8) {
                Check.due("method " + methods[i], Check.answer(() -> x.read(0, k)), "3");
            } else {
                Check.fault("method " + methods[i], x, () -> x.read(0, k), 6, k);
            }
            Check.due("method told", x.entry(0, i, 2), methods[i]);
        }
    }

    private static void sizes() {
        long[] sizes = {0, 1, 2, 3, 4, 5, 255, 256, 259, 7999, 8000, 8001, 8003, 65539, 0x7FFFFFFFL, 0x80000000L, 0x80000003L, 0xFFFFFFFFL};
        Maker maker = new Maker();
        for (long size : sizes) {
            maker.store("s" + size, "abc").size = size;
            maker.pack("p" + size, Maker.text("abc")).size = size;
        }
        NestedArchives x = Calls.opened(maker);
        for (int i = 0; i < 2 * sizes.length; i++) {
            int k = i;
            long size = sizes[i / 2];
            String what = (i % 2 == 0 ? "stored" : "packed") + ", size " + size;
            if (size == 3) {
                Check.due(what, Check.answer(() -> x.read(0, k)), "3");
            } else {
                Check.fault(what, x, () -> x.read(0, k), size > 8000 ? 7 : 8, k);
            }
            Check.due(what + ", told", x.entry(0, k, 0), size);
        }
        long[] packed = {0, 2, 3, 4};
        Maker other = new Maker();
        for (long p : packed) {
            Maker.Item item = other.store("s" + p, "abc");
            item.packedSize = p;
        }
        other.aheadOfDirectory = new byte[1];
        NestedArchives y = Calls.opened(other);
        for (int i = 0; i < packed.length; i++) {
            int k = i;
            if (packed[i] == 3) {
                Check.due("packed size 3", Check.answer(() -> y.read(0, k)), "3");
            } else {
                Check.fault("packed size " + packed[i], y, () -> y.read(0, k), 8, k);
            }
            Check.due("packed size told", y.entry(0, k, 1), packed[i]);
        }
        byte[] zeros = new byte[8000];
        zeros[7999] = -1;
        Maker full = new Maker();
        full.pack("full", zeros);
        NestedArchives z = Calls.opened(full);
        Check.due("8000 bytes", z.read(0, 0), 8000);
        Check.due("octet(7998)", z.octet(7998), 0);
        Check.due("octet(7999)", z.octet(7999), 255);
        Check.due("octet(8000)", z.octet(8000), -1);
    }

    private static void sums() {
        Maker maker = new Maker();
        for (int bit = 0; bit < 32; bit++) {
            maker.store("s" + bit, "content").sum ^= 1L << bit;
        }
        maker.store("none", "");
        maker.store("none1", "").sum = 1;
        maker.store("zero", "\0");
        maker.store("ones", "\u00ff\u00ff\u00ff\u00ff");
        NestedArchives x = Calls.opened(maker);
        for (int bit = 0; bit < 32; bit++) {
            int k = bit;
            Check.fault("the sum's bit " + bit, x, () -> x.read(0, k), 9, k);
        }
        Check.due("the sum of nothing is 0", x.entry(0, 32, 3), 0);
        Check.due("nothing", x.read(0, 32), 0);
        Check.fault("a sum of nothing that is 1", x, () -> x.read(0, 33), 9, 33);
        Check.due("a byte of 0", x.read(0, 34), 1);
        Check.due("its sum", x.entry(0, 34, 3), 0xD202EF8DL);
        Check.due("four bytes of 255", x.read(0, 35), 4);
        Check.due("their sum", x.entry(0, 35, 3), 0xFFFFFFFFL);
    }
}
