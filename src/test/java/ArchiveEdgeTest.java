import java.util.Arrays;

/**
 * The term 'an archive' byte by byte: one small archive whose numbers are changed to the last value that is allowed and to
 * the first one that isn't. Each is opened as the tape and mounted as an entry, since both must find the same.
 */
public final class ArchiveEdgeTest {
    // One entry "n" with the bytes "abc": a local header at 0, the directory at 34, the end record at 81.
    private static final int LOCAL = 0;
    private static final int HEADER = 34;
    private static final int END = 81;
    private static final int LENGTH = 103;

    public static void main(String[] args) {
        Check.due("the archive is as long as these tests think", small().length, LENGTH);
        fine("unchanged", small());
        endRecord();
        whichEndRecord();
        counts();
        directory();
        header();
        leftOutBehindTheName();
        names();
        local();
        data();
        whatIsNotAsked();
        lengths();
        Check.finish();
    }

    private static byte[] small() {
        Maker maker = new Maker();
        maker.store("n", "abc");
        return maker.bytes();
    }

    private static byte[] with(byte[] bytes, int at, int n, long value) {
        byte[] changed = bytes.clone();
        for (int i = 0; i < n; i++) {
            changed[at + i] = (byte) (value >>> 8 * i);
        }
        return changed;
    }

    private static byte[] with(int at, int n, long value) {
        return with(small(), at, n, value);
    }

    private static byte[] flipped(int at) {
        return with(at, 1, small()[at] ^ 1);
    }

    private static byte[] joined(byte[] one, byte[] other) {
        byte[] both = Arrays.copyOf(one, one.length + other.length);
        System.arraycopy(other, 0, both, one.length, other.length);
        return both;
    }

    private static NestedArchives around(byte[] inner) {
        Maker outer = new Maker();
        outer.store("other", "");
        outer.pack("in", inner);
        return Calls.opened(outer);
    }

    private static void wrong(String what, byte[] bytes, int fault, int place) {
        NestedArchives x = new NestedArchives();
        Calls.tape(x, bytes);
        Check.fault(what, x, x::open, fault, place);
        Check.due(what + ": no archive", x.count(-1), 0);
        NestedArchives y = around(bytes);
        Check.fault(what + ", mounted", y, () -> y.mount(1), fault, place);
        Check.due(what + ", mounted: no mount", y.count(-1), 1);
    }

    private static void opens(String what, byte[] bytes, int entries) {
        NestedArchives x = new NestedArchives();
        Calls.tape(x, bytes);
        Check.due(what, Check.answer(x::open), Integer.toString(entries));
        Check.due(what + ": no fault", x.fault(), 0);
        NestedArchives y = around(bytes);
        Check.due(what + ", mounted", Check.answer(() -> y.mount(1)), "1");
        Check.due(what + ", mounted: entries", y.count(1), entries);
    }

    /** It opens, and its one entry is read. */
    private static void fine(String what, byte[] bytes) {
        opens(what, bytes, 1);
        NestedArchives x = new NestedArchives();
        Calls.tape(x, bytes);
        x.open();
        Check.due(what + ": read", Check.answer(() -> x.read(0, 0)), "3");
        Check.due(what + ": octets", Calls.octets(x), "abc");
    }

    private static void endRecord() {
        for (int i = 0; i < 4; i++) {
            wrong("byte " + i + " of the end record's mark", flipped(END + i), 1, -1);
        }
        for (int i = 4; i < 8; i++) {
            wrong("byte " + i + " of the end record", with(END + i, 1, 1), 2, -1);
            wrong("byte " + i + " of the end record, highest bit", with(END + i, 1, 128), 2, -1);
        }
        wrong("one byte told that isn't left", with(END + 20, 2, 1), 1, -1);
        wrong("256 bytes told that aren't left", with(END + 20, 2, 256), 1, -1);
        wrong("one byte left that isn't told", joined(small(), new byte[1]), 1, -1);
        fine("one byte told and left", joined(with(END + 20, 2, 1), new byte[1]));
        wrong("one byte told, two left", joined(with(END + 20, 2, 1), new byte[2]), 1, -1);
        fine("255 bytes told and left", joined(with(END + 20, 2, 255), new byte[255]));
        fine("256 bytes told and left", joined(with(END + 20, 2, 256), new byte[256]));
        wrong("65535 bytes told, 255 left", joined(with(END + 20, 2, 65535), new byte[255]), 1, -1);
        wrong("no bytes", new byte[0], 1, -1);
        byte[] empty = new Maker().bytes();
        opens("22 bytes", empty, 0);
        wrong("21 bytes", Arrays.copyOf(empty, 21), 1, -1);
        wrong("21 bytes, the first one missing", Arrays.copyOfRange(empty, 1, 22), 1, -1);
    }

    private static void whichEndRecord() {
        byte[] mark = Arrays.copyOf(new Maker().bytes(), 22);
        for (int n = 4; n < 22; n++) {
            byte[] more = Arrays.copyOf(mark, n);
            fine("a mark with " + n + " bytes at the end", joined(with(END + 20, 2, n), more));
        }
        opens("a whole end record at the end", joined(with(END + 20, 2, 22), mark), 0);
        wrong("the last one counts though it is wrong", joined(with(END + 20, 2, 22), with(mark, 4, 1, 1)), 2, -1);
        fine("but not if it tells a byte more", joined(with(END + 20, 2, 22), with(mark, 20, 1, 1)));
        byte[] told = joined(with(mark, 20, 1, 1), new byte[1]);
        opens("it does if the byte is there", joined(with(END + 20, 2, 23), told), 0);
    }

    private static void counts() {
        for (int at : new int[] {END + 8, END + 10}) {
            wrong("another number at " + at, with(at, 2, 2), 2, -1);
            wrong("no entry at " + at, with(at, 2, 0), 2, -1);
            wrong("another high byte at " + at, with(at, 2, 257), 2, -1);
        }
        int[][] cases = {{0, 3, 0}, {2, 3, 1}, {64, 3, 1}, {65, 2, -1}, {256, 2, -1}, {257, 2, -1}, {65535, 2, -1}};
        for (int[] c : cases) {
            wrong(c[0] + " entries told", with(with(END + 8, 2, c[0]), END + 10, 2, c[0]), c[1], c[2]);
        }
        for (int n : new int[] {63, 64, 65}) {
            Maker maker = new Maker();
            for (int i = 0; i < n; i++) {
                maker.store(Integer.toString(i), "");
            }
            if (n <= 64) {
                opens(n + " entries", maker.bytes(), n);
            } else {
                wrong(n + " entries", maker.bytes(), 2, -1);
            }
        }
    }

    private static byte[] directoryOf(long size, long place) {
        return with(with(END + 12, 4, size), END + 16, 4, place);
    }

    private static void directory() {
        wrong("a directory of no bytes", directoryOf(0, 34), 3, 0);
        wrong("a directory a byte shorter", directoryOf(46, 34), 3, 0);
        wrong("a directory a byte longer", directoryOf(48, 33), 3, 0);
        wrong("a directory from place 0 on", directoryOf(81, 0), 3, 0);
        wrong("a directory from place 0 on, a base at -1", directoryOf(81, 1), 2, -1);
        wrong("a directory from place -1 on", directoryOf(82, 0), 2, -1);
        wrong("a directory of 256 bytes more", directoryOf(47 + 256, 34), 2, -1);
        wrong("a directory of 2^31 bytes", directoryOf(0x80000000L, 34), 2, -1);
        wrong("a directory of 2^32 - 1 bytes", directoryOf(0xFFFFFFFFL, 34), 2, -1);
        wrong("a directory of -47 bytes", directoryOf(0x100000000L - 47, 34), 2, -1);
        wrong("a base at -1", directoryOf(47, 35), 2, -1);
        wrong("a base at 1", directoryOf(47, 33), 5, 0);
        wrong("a base at 34", directoryOf(47, 0), 5, 0);
        wrong("a base at 34 - 2^31", directoryOf(47, 0x80000000L), 2, -1);
        wrong("a base at 35 - 2^32", directoryOf(47, 0xFFFFFFFFL), 2, -1);
        fine("a base at 1 that is told", joined(new byte[1], small()));
        wrong("a base at 1 that isn't told", joined(new byte[1], directoryOf(47, 35)), 5, 0);
        wrong("a base at -1 behind a byte", joined(new byte[1], directoryOf(47, 36)), 2, -1);
        wrong("a byte between the directory and the end record", gap(), 3, 0);
    }

    private static byte[] gap() {
        byte[] bytes = small();
        return joined(joined(Arrays.copyOf(bytes, END), new byte[1]), Arrays.copyOfRange(bytes, END, LENGTH));
    }

    private static void header() {
        for (int i = 0; i < 4; i++) {
            wrong("byte " + i + " of a header's mark", flipped(HEADER + i), 3, 0);
        }
        wrong("(2 at h + 34) is 1", with(HEADER + 34, 2, 1), 3, 0);
        wrong("(2 at h + 34) is 256", with(HEADER + 34, 2, 256), 3, 0);
        wrong("(2 at h + 34) is 65535", with(HEADER + 34, 2, 65535), 3, 0);
        for (int at : new int[] {28, 30, 32}) {
            long now = at == 28 ? 1 : 0;
            wrong("(2 at h + " + at + ") a byte beyond", with(HEADER + at, 2, now + 1), 3, 0);
            wrong("(2 at h + " + at + ") 256 beyond", with(HEADER + at, 2, now + 256), 3, 0);
            wrong("(2 at h + " + at + ") is 65535", with(HEADER + at, 2, 65535), 3, 0);
        }
        byte[] all = with(with(with(HEADER + 28, 2, 65535), HEADER + 30, 2, 65535), HEADER + 32, 2, 65535);
        wrong("all of them 65535", all, 3, 0);
    }

    private static Maker two() {
        Maker maker = new Maker();
        maker.store("one", "1");
        maker.store("two", "22");
        return maker;
    }

    /** What is left out behind a name, up to the directory's end and a byte beyond, and what is left behind the last. */
    private static void leftOutBehindTheName() {
        for (int n : new int[] {1, 45, 46, 47}) {
            Maker maker = two();
            maker.directoryRest = new byte[n];
            wrong(n + " bytes behind the last header", maker.bytes(), 3, 2);
            maker.bothCountsMore = 1;
            wrong(n + " bytes that are no header", maker.bytes(), 3, 2);
        }
        for (int n : new int[] {1, 255, 256}) {
            Maker maker = two();
            maker.directoryRest = new byte[n];
            maker.items.get(1).extraLengthMore = n;
            opens(n + " bytes left out at h + 30", maker.bytes(), 2);
            maker.items.get(1).extraLengthMore = n + 1;
            wrong(n + 1 + " of " + n + " bytes at h + 30", maker.bytes(), 3, 1);
            maker.items.get(1).extraLengthMore = n - 1;
            wrong(n - 1 + " of " + n + " bytes at h + 30", maker.bytes(), 3, 2);
            maker.items.get(1).commentLengthMore = 1;
            opens(n + " bytes left out by both", maker.bytes(), 2);
            maker.items.get(1).extraLengthMore = 0;
            maker.items.get(1).commentLengthMore = n;
            opens(n + " bytes left out at h + 32", maker.bytes(), 2);
            maker.items.get(1).commentLengthMore = n + 1;
            wrong(n + 1 + " of " + n + " bytes at h + 32", maker.bytes(), 3, 1);
        }
        Maker maker = two();
        maker.items.get(0).extraLengthMore = 1;
        wrong("a byte left out ahead of the second header", maker.bytes(), 3, 1);
        Maker marked = two();
        marked.items.get(0).mark ^= 1;
        wrong("the first header of two", marked.bytes(), 3, 0);
    }

    private static byte[] named(int first) {
        return with(with(HEADER + 46, 1, first), LOCAL + 30, 1, first);
    }

    private static byte[] named(String... names) {
        Maker maker = new Maker();
        for (String name : names) {
            maker.store(name, "abc");
        }
        return maker.bytes();
    }

    private static void names() {
        for (int b = 0; b < 256; b++) {
            if (b >= 33 && b <= 126) {
                fine("a name of byte " + b, named(b));
            } else {
                wrong("a name of byte " + b, named(b), 4, 0);
            }
        }
        String forty = "0123456789012345678901234567890123456789";
        fine("a name of one byte", named("!"));
        fine("a name of 39 bytes", named(forty.substring(1)));
        fine("a name of 40 bytes", named(forty));
        wrong("a name of 41 bytes", named(forty + "x"), 4, 0);
        wrong("a name of 296 bytes", named("x".repeat(296)), 4, 0);
        wrong("a name of 0 bytes", named(""), 4, 0);
        wrong("(2 at h + 28) is 0, and a byte is left", with(HEADER + 28, 2, 0), 4, 0);
        for (int i : new int[] {0, 1, 20, 38, 39}) {
            String other = forty.substring(0, i) + " " + forty.substring(i + 1);
            wrong("a blank at " + i, named(other), 4, 0);
            String tilde = forty.substring(0, i) + "~" + forty.substring(i + 1);
            opens("names that differ at " + i, named(forty, tilde), 2);
        }
        wrong("the same name twice", named(forty, forty), 4, 1);
        wrong("the same name with another between", named("a", "b", "a"), 4, 2);
        wrong("the same name as the one before", named("a", "b", "b"), 4, 2);
        opens("a name that goes on behind another", named("ab", "a", "abc"), 3);
        String[] many = new String[64];
        for (int i = 0; i < 64; i++) {
            many[i] = "e" + i;
        }
        many[63] = "e0";
        wrong("the 64th name is the first one", named(many), 4, 63);
        many[63] = "e62";
        wrong("the 64th name is the 63rd one", named(many), 4, 63);
    }

    private static void local() {
        for (int i = 0; i < 4; i++) {
            wrong("byte " + i + " of a local header's mark", flipped(LOCAL + i), 5, 0);
        }
        wrong("a local name a byte shorter", with(LOCAL + 26, 2, 0), 5, 0);
        wrong("a local name a byte longer", with(LOCAL + 26, 2, 2), 5, 0);
        wrong("a local name 256 bytes longer", with(LOCAL + 26, 2, 257), 5, 0);
        wrong("another local name", flipped(LOCAL + 30), 5, 0);
        wrong("another name", flipped(HEADER + 46), 5, 0);
        Maker maker = two();
        maker.items.get(1).localName = Maker.text("twp");
        wrong("a local name that differs in its last byte", maker.bytes(), 5, 1);
        wrong("a place a byte further", with(HEADER + 42, 4, 1), 5, 0);
        wrong("a place at the directory", with(HEADER + 42, 4, 34), 5, 0);
        wrong("a place at the last byte", with(HEADER + 42, 4, LENGTH - 1), 5, 0);
        wrong("a place behind the last byte", with(HEADER + 42, 4, LENGTH), 5, 0);
        wrong("a place of 2^31", with(HEADER + 42, 4, 0x80000000L), 5, 0);
        wrong("a place of 2^32 - 1", with(HEADER + 42, 4, 0xFFFFFFFFL), 5, 0);
        // A local header ahead of the base can't be told: a place has no sign.
        byte[] ahead = joined(Arrays.copyOf(small(), HEADER), with(LOCAL, 1, 0));
        for (long place : new long[] {0x100000000L - HEADER, HEADER, 2 * HEADER}) {
            wrong("a place of " + place, with(ahead, HEADER + HEADER + 42, 4, place), 5, 0);
        }
        fine("but as a place from 0 on", with(with(ahead, HEADER + END + 16, 4, 2 * HEADER), HEADER + HEADER + 42, 4, 0));
        byte[] moved = joined(new byte[7], small());
        fine("a place is counted from the base on", moved);
        wrong("and not from 0 on", with(moved, 7 + HEADER + 42, 4, 7), 5, 0);
    }

    /** Local headers and data that end at the directory, and that go a byte into it. */
    private static void data() {
        fine("data up to the directory", with(HEADER + 20, 4, 3));
        wrong("data a byte into the directory", with(HEADER + 20, 4, 4), 5, 0);
        wrong("data 256 bytes further", with(HEADER + 20, 4, 259), 5, 0);
        wrong("data of 2^31 bytes", with(HEADER + 20, 4, 0x80000000L), 5, 0);
        wrong("data of 2^32 - 1 bytes", with(HEADER + 20, 4, 0xFFFFFFFFL), 5, 0);
        wrong("data of 3 - 2^32 bytes", with(HEADER + 20, 4, 0xFFFFFFE1L), 5, 0);
        opens("fewer data", with(HEADER + 20, 4, 2), 1);
        opens("no data", with(HEADER + 20, 4, 0), 1);
        for (int out = 0; out <= 4; out++) {
            byte[] bytes = with(with(LOCAL + 28, 2, out), HEADER + 20, 4, Math.max(0, 3 - out));
            if (out <= 3) {
                opens(out + " bytes left out, " + (3 - out) + " of data", bytes, 1);
                wrong(out + " bytes left out, " + (4 - out) + " of data", with(bytes, HEADER + 20, 4, 4 - out), 5, 0);
            } else {
                wrong("left out beyond the directory, no data", bytes, 5, 0);
            }
        }
        wrong("256 bytes left out", with(with(LOCAL + 28, 2, 256), HEADER + 20, 4, 0), 5, 0);
        wrong("65535 bytes left out", with(with(LOCAL + 28, 2, 65535), HEADER + 20, 4, 0), 5, 0);
        NestedArchives x = new NestedArchives();
        byte[] two = with(with(LOCAL + 28, 2, 1), HEADER + 20, 4, 2);
        Calls.tape(x, with(with(two, HEADER + 24, 4, 2), HEADER + 16, 4, Maker.sum(Maker.text("bc"))));
        x.open();
        Check.due("data behind what is left out", Check.answer(() -> x.read(0, 0)), "2");
        Check.due("data behind what is left out: octets", Calls.octets(x), "bc");
        intoTheDirectory();
    }

    /** Local headers that are right but for standing in the directory, by their last byte or all of them. */
    private static void intoTheDirectory() {
        Maker maker = new Maker();
        Maker.Item item = maker.store("P", "");
        item.localName = new byte[0];
        item.localNameLengthMore = 1;
        // The directory's first byte is P, as the local name is.
        wrong("a local name that is the directory's first byte", maker.bytes(), 5, 0);
        maker.aheadOfDirectory = Maker.text("P");
        opens("a local name up to the directory", maker.bytes(), 1);
        Maker inside = two();
        Maker.Item first = inside.items.get(0);
        first.packedSize = 0;
        first.extra = new Maker().localOf("one");
        first.placeMore = inside.bytesAheadOfDirectory() + 46 + 3;
        wrong("a local header in the directory", inside.bytes(), 5, 0);
    }

    /** Bytes of a header and of a local header that the document doesn't speak of, with all bits turned. */
    private static void whatIsNotAsked() {
        int[][] headers = {{4, 8}, {12, 16}, {36, 42}};
        for (int[] part : headers) {
            for (int i = part[0]; i < part[1]; i++) {
                fine("byte " + i + " of a header", with(HEADER + i, 1, ~small()[HEADER + i]));
            }
        }
        for (int i = 4; i < 26; i++) {
            fine("byte " + i + " of a local header", with(LOCAL + i, 1, ~small()[LOCAL + i]));
        }
    }

    /** Archives of 8000 bytes: the longest that a tape, or an entry that is read, can have. */
    private static void lengths() {
        byte[] full = joined(with(END + 20, 2, 8000 - LENGTH), new byte[8000 - LENGTH]);
        fine("8000 bytes", full);
        byte[] empty = new Maker().bytes();
        opens("an end record at 0 and 7978 bytes", joined(with(empty, 20, 2, 7978), new byte[7978]), 0);
        byte[] more = joined(with(END + 20, 2, 8001 - LENGTH), new byte[8001 - LENGTH]);
        NestedArchives x = around(more);
        Check.fault("8001 bytes, mounted", x, () -> x.mount(1), 7, 1);
    }
}
