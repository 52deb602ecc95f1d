import java.util.Arrays;
import java.util.Random;

/** The term 'packed rows' at its edges: of each number the last value that is allowed and the first one that isn't. */
public final class PackedEdgeTest {
    /** Codes for the lengths 0, 1, 2, 8, 15 and for 16, 17, 18, complete. */
    private static final int[] LENGTHS = lengths(19, 0, 3, 1, 3, 2, 3, 8, 3, 15, 3, 16, 3, 17, 3, 18, 3);
    private static final int[] NONE = {0};

    public static void main(String[] args) {
        everyCut();
        lastByte();
        plainLengths();
        plainPlaces();
        sizes();
        waysBack();
        blocks();
        numbersOfCodes();
        numbersOfLengths();
        repetitions();
        beyondTheEnd();
        completeness();
        aloneAndNone();
        Check.finish();
    }

    private static int[] lengths(int n, int... pairs) {
        int[] lengths = new int[n];
        for (int i = 0; i < pairs.length; i += 2) {
            lengths[pairs[i]] = pairs[i + 1];
        }
        return lengths;
    }

    private static NestedArchives with(byte[] packed, byte[] content) {
        Maker maker = new Maker();
        maker.add("e", content, packed, 8);
        return Calls.opened(maker);
    }

    private static void fine(String what, byte[] packed, String content) {
        NestedArchives x = with(packed, Maker.text(content));
        Check.due(what, Check.answer(() -> x.read(0, 0)), Integer.toString(content.length()));
        Calls.octetsAre(what, x, content);
        Check.due(what + ": no fault", x.fault(), 0);
    }

    private static void wrong(String what, byte[] packed, String content) {
        NestedArchives x = with(packed, Maker.text(content));
        Check.fault(what, x, () -> x.read(0, 0), 8, 0);
        Check.due(what + ": nothing is read", x.octet(0), -1);
    }

    /** The lengths of a block of kind 2, told one by one. */
    private static Bits told(boolean last, int[] firsts, int[] ways) {
        Bits bits = new Bits().counts(last, firsts.length, ways.length, LENGTHS);
        for (int length : firsts) {
            bits.among(LENGTHS, length);
        }
        for (int length : ways) {
            bits.among(LENGTHS, length);
        }
        return bits;
    }

    /** A row of all three kinds of blocks ends early at every byte: within any number that is taken. */
    private static void everyCut() {
        int[] firsts = lengths(270, 'a', 2, 'b', 2, 256, 2, 269, 2);
        int[] ways = lengths(7, 0, 1, 6, 1);
        Bits bits = told(false, firsts, ways).among(firsts, 'a').among(firsts, 'b').among(firsts, 269).number(2, 3)
                .among(ways, 0).among(firsts, 256).plain(false, Maker.text("plain")).block(true, 1).fixed('z').fixed(270)
                .number(2, 1).fixedWay(6).number(2, 3).fixed(256);
        String content = "a" + "b".repeat(23) + "plainz";
        for (int i = 0; i < 24; i++) {
            content += content.charAt(content.length() - 12);
        }
        byte[] packed = bits.bytes();
        fine("a row of all kinds", packed, content);
        for (int n = 0; n < packed.length; n++) {
            wrong("its first " + n + " bytes", Arrays.copyOf(packed, n), content);
            told(packed, n, content);
        }
        wrong("a byte more", Arrays.copyOf(packed, packed.length + 1), content);
        byte[] none = new Bits().plain(true, new byte[0]).bytes();
        for (int n = 0; n < none.length; n++) {
            told(none, n, "");
        }
    }

    /** The whole row stands there, but its first n bytes alone are the data. */
    private static void told(byte[] packed, int n, String content) {
        Maker maker = new Maker();
        maker.add("e", Maker.text(content), packed, 8).packedSize = n;
        NestedArchives x = Calls.opened(maker);
        Check.fault("its first " + n + " bytes are the data", x, () -> x.read(0, 0), 8, 0);
    }

    /** A row whose last byte has one bit of it, or eight; a whole byte behind it is one too many. */
    private static void lastByte() {
        for (int n = 0; n < 8; n++) {
            Bits bits = new Bits().block(true, 1);
            for (int i = 0; i < n; i++) {
                bits.fixed(200);
            }
            byte[] packed = bits.fixed(256).bytes();
            String content = "\u00c8".repeat(n);
            fine(n + " signs of nine bits", packed, content);
            wrong(n + " signs of nine bits and a byte", Arrays.copyOf(packed, packed.length + 1), content);
            wrong(n + " signs of nine bits but a byte", Arrays.copyOf(packed, packed.length - 1), content);
        }
    }

    private static byte[] plain(int n, int turned, int there) {
        Bits bits = new Bits().block(true, 0).rest().number(16, n).number(16, turned);
        for (int i = 0; i < there; i++) {
            bits.number(8, 'p');
        }
        return bits.bytes();
    }

    private static void plainLengths() {
        for (int n : new int[] {0, 1, 255, 256, 257, 7000}) {
            String content = "p".repeat(n);
            fine(n + " plain bytes", plain(n, ~n, n), content);
            wrong(n + " plain bytes and one", plain(n, ~n, n + 1), content);
            wrong(n + " plain bytes of which the last is not there", plain(n + 1, ~(n + 1), n), content + "p");
            for (int bit : new int[] {0, 7, 8, 15}) {
                wrong(n + " plain bytes, bit " + bit + " not turned", plain(n, ~n ^ 1 << bit, n), content);
            }
        }
        wrong("65535 plain bytes", plain(65535, 0, 3), "ppp");
        wrong("65535 plain bytes, turned for nothing", plain(0, 0, 0), "");
        wrong("a plain byte more than the size", plain(3, ~3, 3), "pp");
        wrong("a plain byte less than the size", plain(3, ~3, 3), "pppp");
        wrong("plain bytes behind the size", new Bits().plain(false, Maker.text("pp")).plain(true, Maker.text("p")).bytes(), "pp");
        fine("no plain bytes behind the size", new Bits().plain(false, Maker.text("pp")).plain(true, new byte[0]).bytes(), "pp");
    }

    /** A plain block whose beginning ends with each of a byte's bits, and one that ends with the last byte there can be. */
    private static void plainPlaces() {
        for (int n = 0; n < 8; n++) {
            Bits bits = new Bits().block(false, 1);
            for (int i = 0; i < n; i++) {
                bits.fixed(200);
            }
            String content = "\u00c8".repeat(n);
            fine("plain behind " + n + " signs of nine bits", bits.fixed(256).plain(true, Maker.text("plain")).bytes(),
                    content + "plain");
        }
        for (int n : new int[] {7999, 8000, 8001}) {
            Bits bits = new Bits().block(false, 1).fixed('r');
            int done = 1;
            while (n - done > 600) {
                bits.fixed(285).fixedWay(0);
                done += 258;
            }
            byte[] packed = bits.fixed(256).plain(true, Maker.text("r".repeat(n - done))).bytes();
            if (n <= 8000) {
                fine("plain bytes up to " + n, packed, "r".repeat(n));
            } else {
                wrong("plain bytes beyond 8000", packed, "r".repeat(8000));
            }
        }
    }

    /** n bytes by one byte and copies of it. */
    private static byte[] repeated(int n) {
        Bits bits = new Bits().block(true, 1).fixed('r');
        int done = 1;
        while (n - done >= 258) {
            bits.fixed(285).fixedWay(0);
            done += 258;
        }
        while (done < n) {
            bits.fixed('r');
            done++;
        }
        return bits.fixed(256).bytes();
    }

    private static void sizes() {
        for (int n : new int[] {1, 258, 259, 260, 7999, 8000}) {
            fine(n + " bytes", repeated(n), "r".repeat(n));
            wrong(n + " bytes, one more told", repeated(n - (n == 8000 ? 1 : 0)), "r".repeat(Math.min(n + 1, 8000)));
            wrong(n + " bytes, one less told", repeated(n), "r".repeat(n - 1));
        }
        wrong("8001 bytes, 8000 told", repeated(8001), "r".repeat(8000));
        NestedArchives x = with(repeated(8001), new byte[8001]);
        Check.fault("8001 bytes", x, () -> x.read(0, 0), 7, 0);
        // A copy that would go beyond the size by one byte, and one that just doesn't.
        Bits copy = new Bits().block(true, 1).fixed('r').fixed(285).fixedWay(0).fixed(256);
        fine("a copy up to the size", copy.bytes(), "r".repeat(259));
        wrong("a copy a byte beyond the size", copy.bytes(), "r".repeat(258));
        wrong("a copy beyond the size, left out", copy.bytes(), "r");
        wrong("a copy beyond the size, cut", copy.bytes(), "rrr");
        fine("258 by 284 and 31", new Bits().block(true, 1).fixed('r').fixed(284).number(5, 31).fixedWay(0).fixed(256)
                .bytes(), "r".repeat(259));
        fine("no sign", new Bits().block(true, 1).fixed(256).bytes(), "");
        wrong("no byte at all", new byte[0], "");
    }

    private static byte[] back(byte[] row, int way, int bits, int more) {
        return new Bits().plain(false, row).block(true, 1).fixed(257).fixedWay(way).number(bits, more).fixed(256).bytes();
    }

    /** From as far back as there are bytes, and from a byte further. */
    private static void waysBack() {
        int least = 1;
        Random random = new Random(7);
        for (int way = 0; way <= 25; way++) {
            int bits = way < 2 ? 0 : (way - 2) / 2;
            int greatest = Math.min(least + (1 << bits) - 1, 7000);
            for (int far : new int[] {least, greatest}) {
                byte[] row = new byte[far];
                random.nextBytes(row);
                String text = new String(row, java.nio.charset.StandardCharsets.ISO_8859_1);
                String content = text + (text + text + text).substring(0, 3);
                fine("way " + way + " from " + far + " back", back(row, way, bits, far - least), content);
                wrong("way " + way + " of " + far + " back, a byte too far", back(Arrays.copyOf(row, far - 1), way, bits,
                        far - least), content.substring(1));
                wrong("way " + way + " of " + far + " back, left out", back(Arrays.copyOf(row, far - 1), way, bits,
                        far - least), text.substring(0, far - 1));
            }
            least += 1 << bits;
        }
        wrong("from 24577 back", back(new byte[7000], 29, 13, 0), "\0".repeat(7003));
        wrong("from 32768 back", back(new byte[7000], 29, 13, 8191), "\0".repeat(7003));
    }

    private static void blocks() {
        for (int kind = 0; kind < 4; kind++) {
            wrong("kind " + kind + " and nothing behind it", new Bits().block(true, kind).bytes(), "");
        }
        wrong("kind 3 as the last one", new Bits().plain(false, new byte[0]).block(true, 3).number(16, 0).bytes(), "");
        wrong("kind 3 ahead of others", new Bits().block(false, 3).rest().plain(true, new byte[0]).bytes(), "");
        wrong("no last block", new Bits().block(false, 1).fixed(256).bytes(), "");
        fine("a last block behind it", new Bits().block(false, 1).fixed(256).block(true, 1).fixed(256).bytes(), "");
        wrong("a block behind the last one", new Bits().block(true, 1).fixed(256).block(true, 1).fixed(256).bytes(), "");
        Bits many = new Bits();
        for (int i = 0; i < 1000; i++) {
            many.block(false, 1).fixed(256);
        }
        fine("1001 blocks", many.block(true, 1).fixed('m').fixed(256).bytes(), "m");
        // The greatest signs of each length of the codes of kind 1, and those that mustn't come.
        int[] edges = {0, 143, 144, 255};
        for (int sign : edges) {
            fine("sign " + sign, new Bits().block(true, 1).fixed(sign).fixed(256).bytes(), Character.toString(sign));
        }
        for (int sign : new int[] {279, 280, 285}) {
            int bits = sign == 279 ? 4 : sign == 280 ? 4 : 0;
            int n = sign == 279 ? 99 : sign == 280 ? 115 : 258;
            fine("sign " + sign, new Bits().block(true, 1).fixed('c').fixed(sign).number(bits, 0).fixedWay(0).fixed(256)
                    .bytes(), "c".repeat(1 + n));
        }
        for (int sign : new int[] {286, 287}) {
            for (int n : new int[] {0, 3, 258, 259}) {
                wrong("sign " + sign + " for " + n, new Bits().block(true, 1).fixed('c').fixed(sign).fixedWay(0).fixed(256)
                        .bytes(), "c".repeat(1 + n));
            }
        }
        for (int way : new int[] {30, 31}) {
            wrong("way " + way, new Bits().plain(false, new byte[5000]).block(true, 1).fixed(257).fixedWay(way).number(13, 0)
                    .fixed(256).bytes(), "\0".repeat(5003));
        }
    }

    private static void numbersOfCodes() {
        for (int firsts : new int[] {257, 258, 285, 286, 287, 288}) {
            for (int ways : new int[] {1, 2, 29, 30, 31, 32}) {
                int[] one = lengths(firsts, 'a', 1, 256, 1);
                int[] other = lengths(ways, 0, 1);
                byte[] packed = told(true, one, other).among(one, 'a').among(one, 256).bytes();
                String what = firsts + " first codes and " + ways + " ways";
                if (firsts <= 286 && ways <= 30) {
                    fine(what, packed, "a");
                } else {
                    wrong(what, packed, "a");
                }
            }
        }
        int[] last = lengths(286, 'a', 1, 285, 2, 256, 2);
        int[] ways = lengths(30, 0, 1, 29, 1);
        fine("285 among 286", told(true, last, ways).among(last, 'a').among(last, 285).among(ways, 0).among(last, 256)
                .bytes(), "a".repeat(259));
        wrong("way 29 among 30", told(true, last, ways).among(last, 'a').among(last, 285).among(ways, 29).number(13, 0)
                .among(last, 256).bytes(), "a".repeat(259));
    }

    /** Four bits and 4 say how many lengths there are: 5 of them can tell 256 codes of eight bits; 19 is all there are. */
    private static void numbersOfLengths() {
        int[] eight = new int[257];
        Arrays.fill(eight, 8);
        eight['q'] = 0;
        for (int n = 4; n <= 19; n++) {
            int[] order = {16, 17, 18, 0, 8};
            Bits bits = new Bits().block(true, 2).number(5, 0).number(5, 0).number(4, n - 4);
            for (int i = 0; i < n; i++) {
                bits.number(3, i < 5 && (order[i] == 0 || order[i] == 8) ? 1 : 0);
            }
            for (int length : eight) {
                bits.number(1, length == 0 ? 0 : 1);
            }
            byte[] packed = bits.number(1, 0).among(eight, 'z').among(eight, 0).among(eight, 256).bytes();
            if (n == 4) {
                wrong("4 lengths, none for 8", packed, "z\0");
            } else {
                fine(n + " lengths", packed, "z\0");
            }
        }
        // The lengths that aren't told are 0, also if the block before told others.
        Bits after = new Bits().counts(false, 257, 1, LENGTHS);
        int[] one = lengths(257, 'a', 1, 256, 1);
        for (int length : one) {
            after.among(LENGTHS, length);
        }
        after.among(LENGTHS, 0).among(one, 'a').among(one, 256);
        after.block(true, 2).number(5, 0).number(5, 0).number(4, 1).number(3, 0).number(3, 0).number(3, 0).number(3, 1).number(3, 1);
        for (int length : eight) {
            after.number(1, length == 0 ? 0 : 1);
        }
        fine("5 lengths behind 19", after.number(1, 0).among(eight, 'z').among(eight, 256).bytes(), "az");
    }

    /** Zeros by 17 and 18, as few and as many as they can tell. */
    private static Bits zeros(Bits bits, int n) {
        int left = n;
        while (left > 0) {
            int now = left >= 138 + 11 || left == 138 ? 138 : left > 138 ? left - 11 : left;
            if (now >= 11) {
                bits.among(LENGTHS, 18).number(7, now - 11);
            } else if (now >= 3) {
                bits.among(LENGTHS, 17).number(3, now - 3);
            } else {
                now = 1;
                bits.among(LENGTHS, 0);
            }
            left -= now;
        }
        return bits;
    }

    private static void repetitions() {
        int[] times = {3, 4, 9, 10, 11, 12, 137, 138};
        for (int n : times) {
            int[] firsts = lengths(257, n, 1, 256, 1);
            Bits bits = zeros(new Bits().counts(true, 257, 1, LENGTHS), n).among(LENGTHS, 1);
            zeros(bits, 255 - n).among(LENGTHS, 1).among(LENGTHS, 0);
            fine(n + " zeros", bits.among(firsts, n).among(firsts, 256).bytes(), Character.toString(n));
        }
        // n codes of eight bits by one 8 and a 16, the others one by one.
        for (int n = 3; n <= 6; n++) {
            int[] firsts = new int[257];
            Arrays.fill(firsts, 8);
            firsts[255] = 0;
            Bits bits = new Bits().counts(true, 257, 1, LENGTHS).among(LENGTHS, 8).among(LENGTHS, 16).number(2, n - 3);
            for (int i = n + 1; i < 257; i++) {
                bits.among(LENGTHS, firsts[i]);
            }
            bits.among(LENGTHS, 0).among(firsts, n).among(firsts, n + 1).among(firsts, 254).among(firsts, 256);
            fine("the one before " + n + " times", bits.bytes(), "" + (char) n + (char) (n + 1) + (char) 254);
        }
        Bits first = new Bits().counts(true, 257, 1, LENGTHS).among(LENGTHS, 16).number(2, 0);
        wrong("nothing is before the first", zeros(first, 253).among(LENGTHS, 1).among(LENGTHS, 0).code(1, 0).bytes(), "");
        // Not even what a block before has told.
        int[] one = lengths(257, 'a', 1, 256, 1);
        Bits second = told(false, one, NONE).among(one, 'a').among(one, 256).counts(true, 257, 1, LENGTHS)
                .among(LENGTHS, 16).number(2, 0);
        wrong("nothing is before the first of a second block", zeros(second, 253).among(LENGTHS, 1).among(LENGTHS, 0)
                .code(1, 0).bytes(), "a");
        acrossToTheWays();
    }

    private static void acrossToTheWays() {
        // 256 is of length 1, and by 16 so are the ways; three of these would be too many, two are right.
        int[] firsts = lengths(257, 'a', 1, 256, 1);
        Bits zero = zeros(new Bits().counts(true, 257, 4, LENGTHS), 'a').among(LENGTHS, 1);
        zeros(zero, 255 - 'a').among(LENGTHS, 1).among(LENGTHS, 17).number(3, 1);
        fine("zeros for all ways", zero.among(firsts, 'a').among(firsts, 256).bytes(), "a");
        Bits across = zeros(new Bits().counts(true, 258, 3, LENGTHS), 'a').among(LENGTHS, 1);
        zeros(across, 255 - 'a').among(LENGTHS, 1).among(LENGTHS, 17).number(3, 1);
        fine("zeros from the last of the first codes on", across.among(firsts, 'a').among(firsts, 256).bytes(), "a");
        int[] quarters = lengths(258, 'a', 2, 'b', 2, 256, 2, 257, 2);
        Bits twos = zeros(new Bits().counts(true, 258, 4, LENGTHS), 'a').among(LENGTHS, 2).among(LENGTHS, 2);
        zeros(twos, 255 - 'b').among(LENGTHS, 2).among(LENGTHS, 16).number(2, 2);
        int[] four = {2, 2, 2, 2};
        fine("the one before, from a first code to the ways", twos.among(quarters, 'b').among(quarters, 'a')
                .among(quarters, 257).among(four, 1).among(quarters, 256).bytes(), "babab");
        Bits before = zeros(new Bits().counts(true, 258, 4, LENGTHS), 'a').among(LENGTHS, 2).among(LENGTHS, 2);
        zeros(before, 255 - 'b').among(LENGTHS, 2).among(LENGTHS, 2).among(LENGTHS, 16).number(2, 1);
        fine("the last first code is before the first way", before.among(quarters, 'a').among(quarters, 257)
                .among(four, 0).among(quarters, 256).bytes(), "aaaa");
    }

    /** Of 16, 17 and 18 as many as there are, and one more. */
    private static void beyondTheEnd() {
        int[] lone = lengths(257, 256, 1);
        for (int more = 0; more < 2; more++) {
            Bits seventeen = zeros(new Bits().counts(true, 257, 3, LENGTHS), 256).among(LENGTHS, 1).among(LENGTHS, 17)
                    .number(3, more);
            ends("17", seventeen.code(1, 0), more);
            Bits eighteen = zeros(new Bits().counts(true, 257, 11, LENGTHS), 256).among(LENGTHS, 1).among(LENGTHS, 18)
                    .number(7, more);
            ends("18", eighteen.code(1, 0), more);
            Bits sixteen = zeros(new Bits().counts(true, 257, 4, LENGTHS), 256).among(LENGTHS, 1).among(LENGTHS, 0)
                    .among(LENGTHS, 16).number(2, more);
            ends("16", sixteen.code(1, 0), more);
            Bits thirty = zeros(new Bits().counts(true, 286, 30, LENGTHS), 256).among(LENGTHS, 1).among(LENGTHS, 18)
                    .number(7, 59 - 11 + more);
            ends("18 to the end of all", thirty.code(1, 0), more);
        }
        Bits far = zeros(new Bits().counts(true, 286, 30, LENGTHS), 256).among(LENGTHS, 1).among(LENGTHS, 18).number(7, 127);
        ends("18 far beyond the end of all", far.code(1, 0), 1);
        fine("256 alone", told(true, lone, NONE).code(1, 0).bytes(), "");
    }

    private static void ends(String what, Bits bits, int more) {
        if (more == 0) {
            fine(what + " up to the end", bits.bytes(), "");
        } else {
            wrong(what + " beyond the end", bits.bytes(), "");
        }
    }

    /** Codes of the lengths 1, 2, 3 .. 15 and 15 again, with 256 among the shortest so that few bits are needed. */
    private static int[] ladder(int n) {
        int[] lengths = new int[n];
        for (int i = 1; i <= 14; i++) {
            lengths[i] = i + 1;
        }
        lengths[15] = 15;
        return lengths;
    }

    private static Bits tellAll(int[] firsts, int[] ways) {
        int[] codes = new int[19];
        // Sixteen lengths, 0 to 15, of four bits each.
        Arrays.fill(codes, 0, 16, 4);
        Bits bits = new Bits().counts(true, firsts.length, ways.length, codes);
        for (int length : firsts) {
            bits.among(codes, length);
        }
        for (int length : ways) {
            bits.among(codes, length);
        }
        return bits;
    }

    private static void completeness() {
        int[] firsts = ladder(258);
        firsts[256] = 1;
        int[] ways = lengths(30, 0, 1, 29, 1);
        fine("the sum is 1", tellAll(firsts, ways).among(firsts, 15).among(firsts, 14).among(firsts, 1).among(firsts, 256)
                .bytes(), "\u000f\u000e\u0001");
        int[] less = firsts.clone();
        less[15] = 0;
        wrong("the sum is 1 less 2^-15", tellAll(less, ways).among(less, 256).bytes(), "");
        int[] more = firsts.clone();
        more[257] = 15;
        wrong("the sum is 1 and 2^-15", tellAll(more, ways).among(more, 256).bytes(), "");
        int[] steps = ladder(30);
        steps[0] = 1;
        fine("ways whose sum is 1", tellAll(firsts, steps).among(firsts, 1).among(firsts, 256).bytes(), "\u0001");
        int[] few = steps.clone();
        few[15] = 0;
        wrong("ways whose sum is 1 less 2^-15", tellAll(firsts, few).among(firsts, 1).among(firsts, 256).bytes(), "\u0001");
        int[] many = steps.clone();
        many[16] = 15;
        wrong("ways whose sum is 1 and 2^-15", tellAll(firsts, many).among(firsts, 1).among(firsts, 256).bytes(), "\u0001");
        lengthsOfLengths();
    }

    /** The codes of the lengths must be complete too: 1/2, 1/4 .. 1/128 and 1/128 again. */
    private static void lengthsOfLengths() {
        int[] codes = lengths(19, 0, 1, 1, 2, 2, 3, 3, 4, 4, 5, 5, 6, 6, 7, 7, 7);
        int[] one = lengths(257, 'a', 1, 256, 1);
        for (int change = -1; change <= 1; change++) {
            int[] now = codes.clone();
            if (change == -1) {
                now[7] = 0;
            }
            if (change == 1) {
                now[8] = 7;
            }
            Bits bits = new Bits().counts(true, 257, 1, now);
            for (int length : one) {
                bits.among(now, length);
            }
            byte[] packed = bits.among(now, 0).among(one, 'a').among(one, 256).bytes();
            if (change == 0) {
                fine("lengths whose sum is 1", packed, "a");
            } else {
                wrong("lengths whose sum isn't 1 by " + change, packed, "a");
            }
        }
    }

    private static void aloneAndNone() {
        int[] lone = lengths(257, 256, 1);
        fine("256 alone, of length 1", told(true, lone, NONE).code(1, 0).bytes(), "");
        wrong("256 alone, of length 1, by a 1", told(true, lone, NONE).code(1, 1).bytes(), "");
        for (int more = 0; more < 16; more++) {
            // However many bits somebody takes for the code that isn't there, and whatever byte for what it stands for.
            byte[] packed = told(true, lone, NONE).code(1, 1).number(more, 0).bytes();
            wrong("256 alone, by a 1 and " + more + " zeros", packed, "");
            wrong("256 alone, by a 1 and " + more + " zeros, for 0", packed, "\0");
            wrong("256 alone, by a 1 and " + more + " zeros, for 255", packed, "\u00ff");
        }
        wrong("256 alone, of length 2", told(true, lengths(257, 256, 2), NONE).code(2, 0).bytes(), "");
        wrong("256 alone, of length 15", told(true, lengths(257, 256, 15), NONE).code(15, 0).bytes(), "");
        wrong("another one alone", told(true, lengths(257, 'a', 1), NONE).code(1, 0).bytes(), "a");
        wrong("256 of length 1 and one of length 2", told(true, lengths(257, 'a', 2, 256, 1), NONE).code(2, 2).code(1, 0)
                .bytes(), "a");
        wrong("two of length 2", told(true, lengths(257, 'a', 2, 256, 2), NONE).code(2, 0).code(2, 1).bytes(), "a");
        wrong("no first code", told(true, new int[257], NONE).number(15, 0).bytes(), "");
        wrong("no 256 among 257", told(true, lengths(257, 'a', 1, 'b', 1), NONE).code(1, 0).number(15, 0).bytes(), "a");
        wrong("257 for 256", told(true, lengths(258, 'a', 1, 257, 1), NONE).code(1, 0).code(1, 1).bytes(), "a");
        int[] firsts = lengths(258, 'a', 2, 'b', 2, 256, 2, 257, 2);
        for (int way : new int[] {0, 1}) {
            int[] one = lengths(2, way, 1);
            fine("way " + way + " alone", told(true, firsts, one).among(firsts, 'b').among(firsts, 'a').among(firsts, 257)
                    .code(1, 0).among(firsts, 256).bytes(), way == 0 ? "baaaa" : "babab");
            wrong("way " + way + " alone, by a 1", told(true, firsts, one).among(firsts, 'b').among(firsts, 'a')
                    .among(firsts, 257).code(1, 1).among(firsts, 256).bytes(), way == 0 ? "baaaa" : "babab");
            wrong("way " + way + " alone, by a 1, left out", told(true, firsts, one).among(firsts, 'b').among(firsts, 'a')
                    .among(firsts, 257).code(1, 1).among(firsts, 256).bytes(), "ba");
            wrong("way " + way + " alone, of length 2", told(true, firsts, lengths(2, way, 2)).among(firsts, 256).bytes(), "");
            wrong("way " + way + " alone, of length 15", told(true, firsts, lengths(2, way, 15)).among(firsts, 256).bytes(), "");
        }
        fine("no way of 1", told(true, firsts, NONE).among(firsts, 'a').among(firsts, 256).bytes(), "a");
        fine("no way of 30", told(true, firsts, new int[30]).among(firsts, 'a').among(firsts, 256).bytes(), "a");
        for (int more = 0; more < 16; more++) {
            byte[] packed = told(true, firsts, NONE).among(firsts, 'a').among(firsts, 257).number(more, 0).among(firsts, 256)
                    .bytes();
            wrong("no way, but a copy and " + more + " zeros", packed, "aaaa");
            wrong("no way, but a copy and " + more + " zeros, left out", packed, "a");
        }
    }
}
