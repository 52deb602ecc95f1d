import java.io.ByteArrayOutputStream;
import java.util.Arrays;
import java.util.Random;
import java.util.zip.DataFormatException;
import java.util.zip.Deflater;
import java.util.zip.Inflater;

/** Promise 13 with the term 'packed rows', by hand and against the Java library's own unpacking. */
public final class PackedTest {
    /** Codes of the lengths 0, 1, 2, 15 and of 16, 17, 18, complete. */
    private static final int[] LENGTHS = new int[19];

    public static void main(String[] args) {
        for (int sign : new int[] {0, 1, 2, 3, 15, 16, 17, 18}) {
            LENGTHS[sign] = 3;
        }
        plainBlocks();
        fixedBlocks();
        copies();
        ownCodes();
        ownCodesThatAreWrong();
        repetitions();
        longCodes();
        againstLibrary();
        Check.finish();
    }

    private static NestedArchives with(byte[] packed, byte[] content) {
        Maker maker = new Maker();
        maker.add("e", content, packed, 8);
        return Calls.opened(maker);
    }

    private static void fine(String what, Bits bits, String content) {
        NestedArchives x = with(bits.bytes(), Maker.text(content));
        Check.due(what, Check.answer(() -> x.read(0, 0)), Integer.toString(content.length()));
        Calls.octetsAre(what, x, content);
        byte[] more = Arrays.copyOf(bits.bytes(), bits.bytes().length + 1);
        NestedArchives y = with(more, Maker.text(content));
        Check.fault(what + " and a byte", y, () -> y.read(0, 0), 8, 0);
        byte[] less = Arrays.copyOf(bits.bytes(), bits.bytes().length - 1);
        NestedArchives z = with(less, Maker.text(content));
        Check.fault(what + " but a byte", z, () -> z.read(0, 0), 8, 0);
    }

    private static void wrong(String what, Bits bits, String content) {
        NestedArchives x = with(bits.bytes(), Maker.text(content));
        Check.fault(what, x, () -> x.read(0, 0), 8, 0);
    }

    private static void plainBlocks() {
        fine("a plain block", new Bits().plain(true, Maker.text("plain")), "plain");
        fine("an empty plain block", new Bits().plain(true, new byte[0]), "");
        fine("two plain blocks", new Bits().plain(false, Maker.text("one")).plain(true, Maker.text("two")), "onetwo");
        fine("plain behind signs", new Bits().block(false, 1).fixed('x').fixed(256).plain(true, Maker.text("y")), "xy");
        // Ten bits and nineteen, and the three that begin the plain block, end with a byte: nothing is left out then.
        fine("plain on a byte's edge", new Bits().block(false, 1).fixed(256).block(false, 1).fixed(200).fixed(256)
                .plain(true, Maker.text("y")), "\u00c8y");
        wrong("N not turned", new Bits().block(true, 0).rest().number(16, 1).number(16, 1).number(8, 'a'), "a");
        wrong("N turned but for a bit", new Bits().block(true, 0).rest().number(16, 1).number(16, ~1 ^ 0x8000)
                .number(8, 'a'), "a");
        wrong("too few plain bytes", new Bits().block(true, 0).rest().number(16, 2).number(16, ~2).number(8, 'a'), "aa");
        wrong("too many plain bytes", new Bits().plain(true, Maker.text("ab")), "a");
        wrong("kind 3", new Bits().block(true, 3).number(16, 0), "");
        wrong("no last block", new Bits().plain(false, Maker.text("a")), "a");
    }

    private static void fixedBlocks() {
        Bits all = new Bits().block(true, 1);
        StringBuilder content = new StringBuilder();
        for (int i = 0; i < 256; i++) {
            all.fixed(i);
            content.append((char) i);
        }
        fine("all bytes", all.fixed(256), content.toString());
        fine("no bytes", new Bits().block(true, 1).fixed(256), "");
        wrong("no end of the block", new Bits().block(true, 1).fixed('a'), "a");
        wrong("a byte less", new Bits().block(true, 1).fixed('a').fixed(256), "aa");
        wrong("a byte more", new Bits().block(true, 1).fixed('a').fixed('a').fixed(256), "a");
        wrong("286", new Bits().block(true, 1).fixed('a').fixed(286).fixedWay(0).fixed(256), "a");
        wrong("287", new Bits().block(true, 1).fixed('a').fixed(287).fixedWay(0).fixed(256), "a");
        wrong("way 30", new Bits().block(true, 1).fixed('a').fixed(257).fixedWay(30).fixed(256), "aaaa");
        wrong("way 30 for nothing", new Bits().block(true, 1).fixed('a').fixed(257).fixedWay(30).fixed(256), "a");
        wrong("way 31", new Bits().block(true, 1).fixed('a').fixed(257).fixedWay(31).fixed(256), "aaaa");
    }

    private static void copies() {
        int[] least = {3, 4, 5, 6, 7, 8, 9, 10, 11, 13, 15, 17, 19, 23, 27, 31, 35, 43, 51, 59, 67, 83, 99, 115,
            131, 163, 195, 227, 258};
        for (int kind = 0; kind < 29; kind++) {
            int more = kind < 8 || kind == 28 ? 0 : (kind - 4) / 4;
            for (int value : new int[] {0, (1 << more) - 1}) {
                fine("copy " + (257 + kind), new Bits().block(true, 1).fixed('a').fixed(257 + kind).number(more, value)
                        .fixedWay(0).fixed(256), "a".repeat(1 + least[kind] + value));
            }
        }
        fine("bytes that come by the copying", new Bits().block(true, 1).fixed('a').fixed('b').fixed(259).fixedWay(1)
                .fixed(256), "abababa");
        fine("from another block", new Bits().plain(false, Maker.text("abc")).block(true, 1).fixed(257).fixedWay(2)
                .fixed(256), "abcabc");
        wrong("further than there are bytes", new Bits().block(true, 1).fixed('a').fixed(257).fixedWay(1).fixed(256), "aaaa");
        wrong("from nothing", new Bits().block(true, 1).fixed(257).fixedWay(0).fixed(256), "aaa");
        wrong("more than the size", new Bits().block(true, 1).fixed('a').fixed(257).fixedWay(0).fixed(256), "aaa");
        ways();
    }

    /** Every way over a row of 7600 bytes; ways that go further are wrong. */
    private static void ways() {
        byte[] row = new byte[7600];
        new Random(5).nextBytes(row);
        String before = new String(row, java.nio.charset.StandardCharsets.ISO_8859_1);
        int least = 1;
        for (int way = 0; way < 30; way++) {
            int more = way < 2 ? 0 : (way - 2) / 2;
            for (int value : new int[] {0, (1 << more) - 1}) {
                int back = least + value;
                Bits bits = new Bits().plain(false, row).block(true, 1).fixed(257).fixedWay(way).number(more, value).fixed(256);
                String content = before;
                for (int i = 0; i < 3 && back <= 7600; i++) {
                    content += content.charAt(content.length() - back);
                }
                if (7600 >= back) {
                    Maker maker = new Maker();
                    maker.add("e", Maker.text(content), bits.bytes(), 8);
                    NestedArchives x = Calls.opened(maker);
                    Check.due("way " + way, Check.answer(() -> x.read(0, 0)), "7603");
                    Calls.octetsAre("way " + way, x, content);
                } else {
                    wrong("way " + way, bits, before + "aaa");
                }
            }
            least += 1 << more;
        }
    }

    /** The lengths of a block of kind 2, told one by one. */
    private static Bits tell(Bits bits, int[] firsts, int[] ways) {
        bits.counts(true, firsts.length, ways.length, LENGTHS);
        for (int length : firsts) {
            bits.among(LENGTHS, length);
        }
        for (int length : ways) {
            bits.among(LENGTHS, length);
        }
        return bits;
    }

    private static int[] lengths(int n, int... pairs) {
        int[] lengths = new int[n];
        for (int i = 0; i < pairs.length; i += 2) {
            lengths[pairs[i]] = pairs[i + 1];
        }
        return lengths;
    }

    private static void ownCodes() {
        int[] firsts = lengths(258, 'a', 2, 'b', 2, 256, 2, 257, 2);
        int[] two = {1, 1};
        fine("own codes", tell(new Bits(), firsts, two).among(firsts, 'b').among(firsts, 'a').among(firsts, 257)
                .among(two, 1).among(firsts, 256), "babab");
        int[] one = lengths(30, 0, 1);
        fine("one way", tell(new Bits(), firsts, one).among(firsts, 'a').among(firsts, 257).code(1, 0)
                .among(firsts, 256), "aaaa");
        wrong("the way that isn't there", tell(new Bits(), firsts, one).among(firsts, 'a').among(firsts, 257).code(1, 1)
                .among(firsts, 256), "aaaa");
        wrong("the way that isn't there, for nothing", tell(new Bits(), firsts, one).among(firsts, 'a').among(firsts, 257)
                .code(1, 1).among(firsts, 256), "a");
        int[] last = lengths(30, 29, 1);
        fine("one way that isn't used", tell(new Bits(), firsts, last).among(firsts, 'a').among(firsts, 256), "a");
        int[] none = {0};
        fine("no way", tell(new Bits(), firsts, none).among(firsts, 'a').among(firsts, 256), "a");
        wrong("no way, but one is needed", tell(new Bits(), firsts, none).among(firsts, 'a').among(firsts, 257)
                .code(1, 0).among(firsts, 256), "aaaa");
        int[] lone = lengths(257, 256, 1);
        fine("256 alone", tell(new Bits(), lone, none).code(1, 0), "");
        wrong("the sign that isn't there", tell(new Bits(), lone, none).code(1, 1).code(1, 0), "");
        int[] most = lengths(286, 'a', 1, 256, 2, 285, 2);
        int[] thirty = lengths(30, 0, 1, 29, 1);
        fine("286 and 30", tell(new Bits(), most, thirty).among(most, 'a').among(most, 285).among(thirty, 0)
                .among(most, 256), "a".repeat(259));
    }

    private static void ownCodesThatAreWrong() {
        int[] none = {0};
        int[] two = {1, 1};
        int[] right = lengths(257, 'a', 1, 256, 1);
        fine("the right one", tell(new Bits(), right, two).among(right, 'a').among(right, 256), "a");
        int[] few = lengths(257, 'a', 2, 256, 2);
        wrong("too few first codes", tell(new Bits(), few, none).among(few, 'a').among(few, 256), "a");
        int[] many = lengths(257, 'a', 1, 'b', 1, 256, 1);
        wrong("too many first codes", tell(new Bits(), many, none).code(1, 0).code(1, 1), "a");
        int[] noEnd = lengths(257, 'a', 1, 'b', 1);
        wrong("no 256", tell(new Bits(), noEnd, none).among(noEnd, 'a').code(8, 0), "a");
        int[] loneTwo = lengths(257, 256, 2);
        wrong("256 alone, of length 2", tell(new Bits(), loneTwo, none).code(2, 0), "");
        wrong("one way, of length 2", tell(new Bits(), right, new int[] {2}).among(right, 256), "");
        wrong("too few ways", tell(new Bits(), right, new int[] {2, 2, 2}).among(right, 256), "");
        wrong("too many ways", tell(new Bits(), right, new int[] {1, 1, 2}).among(right, 256), "");
        int[] more = lengths(287, 'a', 1, 256, 1);
        wrong("287 first codes", tell(new Bits(), more, none).among(more, 'a').among(more, 256), "a");
        int[] more2 = lengths(288, 'a', 1, 256, 1);
        wrong("288 first codes", tell(new Bits(), more2, none).among(more2, 'a').among(more2, 256), "a");
        Bits behind = new Bits().counts(false, 257, 2, LENGTHS);
        for (int i = 0; i < 259; i++) {
            behind.among(LENGTHS, i < 257 ? right[i] : 1);
        }
        behind.among(right, 'a').among(right, 256).block(true, 2).number(5, 30).number(5, 0).number(4, 0);
        wrong("287 first codes behind right ones", behind.among(right, 256), "a");
        int[] manyWays = lengths(31, 0, 1);
        wrong("31 ways", tell(new Bits(), right, manyWays).among(right, 'a').among(right, 256), "a");
        int[] manyWays2 = lengths(32, 0, 1);
        wrong("32 ways", tell(new Bits(), right, manyWays2).among(right, 'a').among(right, 256), "a");
        wrong("lengths that aren't complete", new Bits().counts(true, 257, 1, lengths(19, 0, 2, 1, 2)).number(30, 0), "");
        wrong("lengths that are too many", new Bits().counts(true, 257, 1, lengths(19, 0, 1, 1, 1, 2, 1)).number(30, 0), "");
        wrong("no lengths", new Bits().counts(true, 257, 1, new int[19]).number(30, 0), "");
        wrong("one length alone", new Bits().counts(true, 257, 1, lengths(19, 18, 1)).number(1, 0).number(7, 127)
                .number(1, 0).number(7, 109).number(1, 0), "");
    }

    private static void repetitions() {
        int[] firsts = lengths(257, 'a', 1, 256, 1);
        int[] two = {1, 1};
        Bits bits = new Bits().counts(true, 257, 2, LENGTHS);
        bits.among(LENGTHS, 18).number(7, 'a' - 11).among(LENGTHS, 1).among(LENGTHS, 18).number(7, 127);
        bits.among(LENGTHS, 18).number(7, 9).among(LENGTHS, 1).among(LENGTHS, 1).among(LENGTHS, 1);
        fine("18", bits.among(firsts, 'a').among(firsts, 256), "a");

        // 256 and three ways are of length 2 by one repetition that goes on from the first codes to the ways.
        int[] quarter = lengths(257, 254, 2, 255, 2, 253, 2, 256, 2);
        int[] four = {2, 2, 2, 2};
        bits = new Bits().counts(true, 257, 4, LENGTHS);
        bits.among(LENGTHS, 18).number(7, 127).among(LENGTHS, 18).number(7, 115 - 11).among(LENGTHS, 2);
        bits.among(LENGTHS, 16).number(2, 3).among(LENGTHS, 2);
        fine("16 across", bits.among(quarter, 254).among(quarter, 256), "\u00fe");

        bits = new Bits().counts(true, 257, 1, LENGTHS).among(LENGTHS, 16).number(2, 0);
        for (int i = 3; i < 258; i++) {
            bits.among(LENGTHS, i == 256 ? 1 : 0);
        }
        wrong("16 as the first", bits.code(1, 0), "");

        bits = new Bits().counts(true, 257, 1, LENGTHS);
        bits.among(LENGTHS, 17).number(3, 7).among(LENGTHS, 16).number(2, 3).among(LENGTHS, 17).number(3, 0);
        bits.among(LENGTHS, 18).number(7, 127).among(LENGTHS, 18).number(7, 96 - 11);
        bits.among(LENGTHS, 0).among(LENGTHS, 0).among(LENGTHS, 0).among(LENGTHS, 1).among(LENGTHS, 0);
        fine("16 of zeros, 17", bits.code(1, 0), "");

        for (int extra = 0; extra < 2; extra++) {
            bits = new Bits().counts(true, 257, 4, LENGTHS).among(LENGTHS, 18).number(7, 127).among(LENGTHS, 18)
                    .number(7, 118 - 11).among(LENGTHS, 1).among(LENGTHS, 17).number(3, 1 + extra).code(1, 0);
            if (extra == 0) {
                fine("17 up to the end", bits, "");
            } else {
                wrong("17 beyond the end", bits, "");
            }
        }
        bits = new Bits().counts(true, 257, 2, LENGTHS).among(LENGTHS, 18).number(7, 127).among(LENGTHS, 18)
                .number(7, 117 - 11).among(LENGTHS, 1).among(LENGTHS, 1).among(LENGTHS, 16).number(2, 0).code(1, 0);
        wrong("16 beyond the end", bits, "");
        bits = new Bits().counts(true, 257, 1, LENGTHS).among(LENGTHS, 18).number(7, 127).among(LENGTHS, 18).number(7, 127);
        wrong("18 beyond the end", bits, "");
    }

    private static void longCodes() {
        int[] lengths = lengths(19, 0, 4);
        int[] firsts = new int[257];
        for (int i = 1; i <= 14; i++) {
            firsts[i] = i;
            lengths[i] = 4;
        }
        // Of the sixteenths 0 to 14 have one each, and 15 and 18 share the last one.
        lengths[15] = 5;
        lengths[18] = 5;
        firsts[15] = 15;
        firsts[256] = 15;
        Bits bits = new Bits().counts(true, 257, 1, lengths);
        for (int length : firsts) {
            bits.among(lengths, length);
        }
        bits.among(lengths, 0);
        StringBuilder content = new StringBuilder();
        for (int i = 15; i >= 1; i--) {
            bits.among(firsts, i);
            content.append((char) i);
        }
        fine("codes of all lengths", bits.among(firsts, 256), content.toString());
    }

    private static byte[] unpacked(byte[] packed) {
        Inflater inflater = new Inflater(true);
        inflater.setInput(packed);
        ByteArrayOutputStream out = new ByteArrayOutputStream();
        byte[] part = new byte[20000];
        try {
            int n = 1;
            while (!inflater.finished() && n > 0) {
                n = inflater.inflate(part);
                out.write(part, 0, n);
            }
            boolean fine = inflater.finished() && inflater.getBytesRead() == packed.length;
            return fine ? out.toByteArray() : null;
        } catch (DataFormatException e) {
            return null;
        } finally {
            inflater.end();
        }
    }

    private static byte[] someContent(Random random) {
        byte[] content = new byte[random.nextInt(random.nextInt(10) == 0 ? 8001 : 200)];
        int kinds = 1 + random.nextInt(random.nextBoolean() ? 4 : 256);
        for (int i = 0; i < content.length; i++) {
            boolean again = i > 20 && random.nextInt(4) != 0;
            content[i] = again ? content[i - 1 - random.nextInt(20)] : (byte) random.nextInt(kinds);
        }
        return content;
    }

    private static void againstLibrary() {
        Random random = new Random(20261115);
        int[] strategies = {Deflater.DEFAULT_STRATEGY, Deflater.FILTERED, Deflater.HUFFMAN_ONLY};
        int rightOnes = 0;
        int wrongOnes = 0;
        for (int turn = 0; turn < 6000; turn++) {
            byte[] content = someContent(random);
            byte[] packed = Maker.deflate(content, random.nextInt(10), strategies[random.nextInt(3)]);
            int changes = random.nextInt(3);
            for (int i = 0; i < changes; i++) {
                int at = random.nextBoolean() ? random.nextInt(packed.length)
                        : Math.min(random.nextInt(12), packed.length - 1);
                packed[at] ^= (byte) (1 << random.nextInt(8));
            }
            byte[] due = unpacked(packed);
            if (packed.length > 7800) {
                continue;
            }
            byte[] told = due == null || due.length > 8000 ? content : due;
            NestedArchives x = with(packed, told);
            if (told == due) {
                rightOnes++;
                Check.due("turn " + turn, Check.answer(() -> x.read(0, 0)), Integer.toString(due.length));
                Calls.octetsAre("turn " + turn, x, new String(due, java.nio.charset.StandardCharsets.ISO_8859_1));
            } else {
                wrongOnes++;
                Check.fault("turn " + turn, x, () -> x.read(0, 0), 8, 0);
            }
        }
        Check.due("right ones came", rightOnes > 1000, true);
        Check.due("wrong ones came", wrongOnes > 500, true);
    }
}
