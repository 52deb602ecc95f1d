import java.util.Arrays;

/** Archives in an archive, as ../shared/DOC.md promises; numbers of promises and faults are those of that document. */
public final class NestedArchives {
    private static final int MOST_BYTES = 8000;
    private static final int MOST_BITS = 64000;
    private static final int MOST_LETTERS = 40;
    private static final int MOST_ENTRIES = 64;
    private static final int MOST_MOUNTS = 6;
    private static final int NONE = -1;

    private static final int NO_FAULT = 0;
    private static final int NO_END_RECORD = 1;
    private static final int WRONG_END_RECORD = 2;
    private static final int WRONG_HEADER = 3;
    private static final int WRONG_NAME = 4;
    private static final int WRONG_LOCAL_HEADER = 5;
    private static final int UNKNOWN_METHOD = 6;
    private static final int TOO_BIG = 7;
    private static final int WRONG_DATA = 8;
    private static final int WRONG_SUM = 9;
    private static final int WRONG_MANIFEST = 10;
    private static final int WRONG_INDEX = 11;
    private static final int NO_SUCH_LINE_ENTRY = 12;

    private static final String MANIFEST_NAME = "META-INF/MANIFEST.MF";
    private static final String INDEX_NAME = "index.txt";

    // What the sum is changed by for four bits at once.
    private static final int[] SUM_STEPS = {0, 0x1DB71064, 0x3B6E20C8, 0x26D930AC, 0x76DC4190, 0x6B6B51F4, 0x4DB26158,
        0x5005713C, 0xEDB88320, 0xF00F9344, 0xD6D6A3E8, 0xCB61B38C, 0x9B64C2B0, 0x86D3D2D4, 0xA00AE278, 0xBDBDF21C};

    /** Bytes one behind the other. The array is made at the first byte, so that rows that are never used cost nothing. */
    private static final class Row {
        private final int most;
        private byte[] bytes = new byte[0];
        private int length = 0;

        Row(int most) {
            this.most = Math.max(most, 0);
        }

        void clear() {
            length = 0;
        }

        int at(int i) {
            return i >= 0 && i < length ? bytes[i] & 255 : NONE;
        }

        int two(int i) {
            return i >= 0 && i < length - 1 ? bytes[i] & 255 | (bytes[i + 1] & 255) << 8 : NONE;
        }

        long four(int i) {
            return two(i) | (long) two(i + 2) << 16;
        }

        boolean hasMark(int i, int third, int fourth) {
            return at(i) == 80 && at(i + 1) == 75 && at(i + 2) == third && at(i + 3) == fourth;
        }

        boolean add(int b) {
            if (length >= most) {
                return false;
            }
            if (bytes.length < most) {
                bytes = new byte[most];
            }
            bytes[length] = (byte) b;
            length++;
            return true;
        }

        boolean addPart(Row other, int from, int n) {
            if (from < 0 || n < 0 || n > other.length || from > other.length - n || n > most - length) {
                return false;
            }
            if (bytes.length < most) {
                bytes = new byte[most];
            }
            System.arraycopy(other.bytes, from, bytes, length, n);
            length += n;
            return true;
        }

        void addText(String text) {
            for (int i = 0; i < text.length(); i++) {
                add(text.charAt(i));
            }
        }

        boolean hasPart(int i, Row other, int from, int n) {
            if (i < 0 || from < 0 || i > length - n || from > other.length - n) {
                return false;
            }
            for (int j = 0; j < n; j++) {
                if (bytes[i + j] != other.bytes[from + j]) {
                    return false;
                }
            }
            return true;
        }
    }

    /** A row that is looked through as an archive; of its entries only the places are held, the rest is taken from the row. */
    private static final class Archive {
        private final Row row = new Row(MOST_BYTES);
        private final int[] headers = new int[MOST_ENTRIES];
        private final int[] data = new int[MOST_ENTRIES];
        private int entries = 0;
        private int endRecord = 0;
        private int directory = 0;
        private int base = 0;
        private int faultPlace = NONE;

        /** The first fault, with its place in faultPlace. */
        int survey() {
            entries = 0;
            faultPlace = NONE;
            endRecord = lastEndRecord();
            if (endRecord < 0) {
                return NO_END_RECORD;
            }
            if (!placeDirectory()) {
                return WRONG_END_RECORD;
            }
            int told = row.two(endRecord + 8);
            int h = directory;
            for (int k = 0; k < told && k < MOST_ENTRIES; k++) {
                int fault = surveyHeader(h);
                if (fault != NO_FAULT) {
                    faultPlace = k;
                    return fault;
                }
                headers[k] = h;
                data[k] = placeData(h);
                entries = k + 1;
                h += headerLength(h);
            }
            faultPlace = entries;
            return h == endRecord ? NO_FAULT : WRONG_HEADER;
        }

        private int lastEndRecord() {
            for (int e = row.length - 22; e >= 0; e--) {
                if (row.hasMark(e, 5, 6) && row.two(e + 20) == row.length - e - 22) {
                    return e;
                }
            }
            return NONE;
        }

        private boolean placeDirectory() {
            int told = row.two(endRecord + 8);
            if (row.two(endRecord + 4) != 0 || row.two(endRecord + 6) != 0
                    || told != row.two(endRecord + 10) || told > MOST_ENTRIES) {
                return false;
            }
            long start = endRecord - row.four(endRecord + 12);
            long zero = start - row.four(endRecord + 16);
            if (start < 0 || zero < 0) {
                return false;
            }
            directory = (int) start;
            base = (int) zero;
            return true;
        }

        private int surveyHeader(int h) {
            if (h > endRecord - 46 || !row.hasMark(h, 1, 2) || row.two(h + 34) != 0
                    || headerLength(h) > endRecord - h) {
                return WRONG_HEADER;
            }
            if (!isFreshName(h)) {
                return WRONG_NAME;
            }
            return placeData(h) < 0 ? WRONG_LOCAL_HEADER : NO_FAULT;
        }

        private int headerLength(int h) {
            return 46 + row.two(h + 28) + row.two(h + 30) + row.two(h + 32);
        }

        private boolean isFreshName(int h) {
            int n = row.two(h + 28);
            if (n < 1 || n > MOST_LETTERS) {
                return false;
            }
            for (int i = 0; i < n; i++) {
                if (!isLetter(row.at(h + 46 + i))) {
                    return false;
                }
            }
            return lookUp(row, h + 46, n) == NONE;
        }

        /** Where the data of the header's entry begin; -1 if the local header or the data aren't as told. */
        private int placeData(int h) {
            int n = row.two(h + 28);
            long far = base + row.four(h + 42);
            if (far > directory - 30) {
                return NONE;
            }
            int l = (int) far;
            if (!row.hasMark(l, 3, 4) || row.two(l + 26) != n) {
                return NONE;
            }
            int start = l + 30 + n + row.two(l + 28);
            if (start + row.four(h + 20) > directory || !row.hasPart(l + 30, row, h + 46, n)) {
                return NONE;
            }
            return start;
        }

        /** The number of the entry with this name; -1 if there is none. */
        int lookUp(Row names, int from, int n) {
            for (int k = 0; k < entries && k < MOST_ENTRIES; k++) {
                if (row.two(headers[k] + 28) == n && row.hasPart(headers[k] + 46, names, from, n)) {
                    return k;
                }
            }
            return NONE;
        }

        boolean hasEntry(int k) {
            return k >= 0 && k < entries && k < MOST_ENTRIES;
        }

        private int header(int k) {
            return hasEntry(k) ? headers[k] : 0;
        }

        int dataPlace(int k) {
            return hasEntry(k) ? data[k] : 0;
        }

        int flags(int k) {
            return row.two(header(k) + 8);
        }

        int method(int k) {
            return row.two(header(k) + 10);
        }

        long sum(int k) {
            return row.four(header(k) + 16);
        }

        long packedSize(int k) {
            return row.four(header(k) + 20);
        }

        long size(int k) {
            return row.four(header(k) + 24);
        }

        int nameLength(int k) {
            return row.two(header(k) + 28);
        }

        int nameByte(int k, int i) {
            return i >= 0 && i < nameLength(k) ? row.at(header(k) + 46 + i) : NONE;
        }
    }

    /** Codes by lengths: how many there are of each length, and what they stand for, in their order. */
    private static final class Codes {
        private static final int LONGEST = 15;

        private final int[] counts = new int[LONGEST + 1];
        private final int[] places = new int[LONGEST + 1];
        private final int[] signs;

        Codes(int most) {
            signs = new int[Math.max(most, 0)];
        }

        /** False if the lengths give no codes that are allowed. */
        boolean learn(int[] lengths, int from, int n, boolean noneIsFine) {
            if (from < 0 || n < 0 || n > signs.length || n > lengths.length || from > lengths.length - n) {
                return false;
            }
            Arrays.fill(counts, 0);
            for (int i = 0; i < n; i++) {
                counts[lengths[from + i] & LONGEST]++;
            }
            int used = n - counts[0];
            sortSigns(lengths, from, n);
            if (used == 0) {
                return noneIsFine;
            }
            return used == 1 && counts[1] == 1 || areComplete();
        }

        private void sortSigns(int[] lengths, int from, int n) {
            places[1] = 0;
            for (int length = 1; length < LONGEST; length++) {
                places[length + 1] = places[length] + counts[length];
            }
            for (int i = 0; i < n; i++) {
                int length = lengths[from + i] & LONGEST;
                int place = places[length];
                if (length != 0 && place < signs.length) {
                    signs[place] = i;
                    places[length] = place + 1;
                }
            }
        }

        private boolean areComplete() {
            int free = 1;
            for (int length = 1; length <= LONGEST; length++) {
                free = 2 * free - counts[length];
                if (free < 0) {
                    return false;
                }
            }
            return free == 0;
        }
    }

    /** Unpacks packed rows. It reads bit by bit, since where a row ends must be known to the byte. */
    private static final class Unpacker {
        private static final int BLOCK_END = 256;
        private static final int MOST_FIRSTS = 286;
        private static final int MOST_WAYS = 30;
        private static final int FIXED_FIRSTS = 288;
        private static final int FIXED_WAYS = 32;
        private static final int[] LENGTH_ORDER = {16, 17, 18, 0, 8, 7, 9, 6, 10, 5, 11, 4, 12, 3, 13, 2, 14, 1, 15};
        private static final int[] COPY_LEAST = {3, 4, 5, 6, 7, 8, 9, 10, 11, 13, 15, 17, 19, 23, 27, 31,
            35, 43, 51, 59, 67, 83, 99, 115, 131, 163, 195, 227, 258};
        private static final int[] COPY_BITS = {0, 0, 0, 0, 0, 0, 0, 0, 1, 1, 1, 1, 2, 2, 2, 2,
            3, 3, 3, 3, 4, 4, 4, 4, 5, 5, 5, 5, 0};
        private static final int[] WAY_LEAST = {1, 2, 3, 4, 5, 7, 9, 13, 17, 25, 33, 49, 65, 97, 129, 193, 257, 385,
            513, 769, 1025, 1537, 2049, 3073, 4097, 6145, 8193, 12289, 16385, 24577};
        private static final int[] WAY_BITS = {0, 0, 0, 0, 1, 1, 2, 2, 3, 3, 4, 4, 5, 5, 6, 6, 7, 7,
            8, 8, 9, 9, 10, 10, 11, 11, 12, 12, 13, 13};

        private final int[] lengths = new int[FIXED_FIRSTS + FIXED_WAYS];
        private final Codes lengthCodes = new Codes(LENGTH_ORDER.length);
        private final Codes firsts = new Codes(MOST_FIRSTS);
        private final Codes ways = new Codes(MOST_WAYS);
        private final Codes fixedFirsts = new Codes(FIXED_FIRSTS);
        private final Codes fixedWays = new Codes(FIXED_WAYS);
        private Row source = new Row(0);
        private Row target = source;
        private int wanted = 0;
        private int bit = 0;
        private int bitEnd = 0;
        private boolean ranOut = false;

        Unpacker() {
            Arrays.fill(lengths, 0, 144, 8);
            Arrays.fill(lengths, 144, 256, 9);
            Arrays.fill(lengths, 256, 280, 7);
            Arrays.fill(lengths, 280, FIXED_FIRSTS, 8);
            Arrays.fill(lengths, FIXED_FIRSTS, FIXED_FIRSTS + FIXED_WAYS, 5);
            fixedFirsts.learn(lengths, 0, FIXED_FIRSTS, false);
            fixedWays.learn(lengths, FIXED_FIRSTS, FIXED_WAYS, false);
        }

        /** True if the n bytes are a packed row of so many bytes with no whole byte behind it; to has them then. */
        boolean unpack(Row from, int start, int n, Row to, int size) {
            if (start < 0 || n < 0 || n > from.length || start > from.length - n) {
                return false;
            }
            source = from;
            target = to;
            wanted = size;
            bit = 8 * start;
            bitEnd = 8 * (start + n);
            ranOut = false;
            boolean last = false;
            for (int block = 0; block <= MOST_BITS && !last; block++) {
                last = takeBits(1) == 1;
                int kind = takeBits(2);
                boolean fine = kind == 0 ? copyPlain()
                        : kind == 1 ? followSigns(fixedFirsts, fixedWays)
                        : kind == 2 && learnCodes() && followSigns(firsts, ways);
                if (ranOut || !fine) {
                    return false;
                }
            }
            return last && target.length == wanted && bit > bitEnd - 8;
        }

        private int takeBits(int n) {
            int got = 0;
            for (int i = 0; i < n; i++) {
                if (bit >= bitEnd) {
                    ranOut = true;
                    return 0;
                }
                got |= (source.bytes[bit >> 3] >> (bit & 7) & 1) << i;
                bit++;
            }
            return got;
        }

        /** What the next code stands for; -1 if there is no such code or the bits end. */
        private int nextSign(Codes codes) {
            int code = 0;
            int first = 0;
            int place = 0;
            for (int length = 1; length <= Codes.LONGEST && bit < bitEnd; length++) {
                code |= source.bytes[bit >> 3] >> (bit & 7) & 1;
                bit++;
                int count = codes.counts[length];
                int at = place + code - first;
                if (code - first < count) {
                    return at >= 0 && at < codes.signs.length ? codes.signs[at] : NONE;
                }
                place += count;
                first = (first + count) << 1;
                code <<= 1;
            }
            return NONE;
        }

        private boolean copyPlain() {
            bit = (bit + 7) & ~7;
            int n = takeBits(16);
            int turned = takeBits(16);
            if (ranOut || (n ^ 0xFFFF) != turned || n > (bitEnd - bit) >> 3 || n > wanted - target.length) {
                return false;
            }
            bit += 8 * n;
            return target.addPart(source, (bit >> 3) - n, n);
        }

        private boolean learnCodes() {
            int firstCount = takeBits(5) + 257;
            int wayCount = takeBits(5) + 1;
            int lengthCount = takeBits(4) + 4;
            if (ranOut || firstCount > MOST_FIRSTS || wayCount > MOST_WAYS) {
                return false;
            }
            Arrays.fill(lengths, 0);
            for (int i = 0; i < lengthCount && i < LENGTH_ORDER.length; i++) {
                lengths[LENGTH_ORDER[i]] = takeBits(3);
            }
            return !ranOut && lengthCodes.learn(lengths, 0, LENGTH_ORDER.length, false)
                    && tellLengths(firstCount + wayCount) && lengths[BLOCK_END] != 0
                    && firsts.learn(lengths, 0, firstCount, false)
                    && ways.learn(lengths, firstCount, wayCount, true);
        }

        /** The lengths of the first codes and of the ways are one row: a repetition may go on from those to these. */
        private boolean tellLengths(int n) {
            if (n > lengths.length) {
                return false;
            }
            int told = 0;
            for (int step = 0; step < n && told < n; step++) {
                int sign = nextSign(lengthCodes);
                if (sign < 0 || sign == 16 && told == 0) {
                    return false;
                }
                int length = sign < 16 ? sign : sign == 16 ? lengths[told - 1] : 0;
                int times = sign < 16 ? 1 : sign == 16 ? 3 + takeBits(2)
                        : sign == 17 ? 3 + takeBits(3) : 11 + takeBits(7);
                if (ranOut || times > n - told) {
                    return false;
                }
                Arrays.fill(lengths, told, told + times, length);
                told += times;
            }
            return told == n;
        }

        private boolean followSigns(Codes byFirsts, Codes byWays) {
            for (int step = 0; step <= MOST_BITS; step++) {
                int sign = nextSign(byFirsts);
                if (sign == BLOCK_END) {
                    return true;
                }
                if (sign < 0) {
                    return false;
                }
                boolean fine = sign < BLOCK_END
                        ? target.length < wanted && target.add(sign)
                        : copyBack(sign - BLOCK_END - 1, byWays);
                if (!fine) {
                    return false;
                }
            }
            return false;
        }

        private boolean copyBack(int kind, Codes byWays) {
            if (kind < 0 || kind >= COPY_LEAST.length) {
                return false;
            }
            int n = COPY_LEAST[kind] + takeBits(COPY_BITS[kind]);
            int way = nextSign(byWays);
            if (way < 0 || way >= WAY_LEAST.length) {
                return false;
            }
            int back = WAY_LEAST[way] + takeBits(WAY_BITS[way]);
            if (ranOut || back > target.length || n > wanted - target.length) {
                return false;
            }
            for (int i = 0; i < n; i++) {
                target.add(target.at(target.length - back));
            }
            return true;
        }
    }

    /** Joins and checks the main lines of a manifest, and finds one attribute among them. */
    private static final class Manifest {
        private static final int LONGEST_LINE = 72;
        // A line that passes has a letter, a colon and a blank, and all but the last one have an end.
        private static final int MOST_LINES = 2000;

        private final Row joined = new Row(MOST_BYTES);
        private final int[] starts = new int[MOST_LINES];
        private final int[] nameLengths = new int[MOST_LINES];
        private int lines = 0;
        private int openStart = NONE;
        private Row asked = new Row(0);
        private int valueStart = NONE;
        private int valueLength = 0;

        /** False if it is no manifest; else valueStart is where the value asked for begins in joined, -1 if there is none. */
        boolean learn(Row text, Row name) {
            joined.clear();
            lines = 0;
            openStart = NONE;
            asked = name;
            valueStart = NONE;
            valueLength = 0;
            boolean inMain = true;
            int at = 0;
            for (int line = 0; line <= MOST_BYTES && at < text.length; line++) {
                int stop = lineStop(text, at);
                int n = lineLength(text, at, stop);
                inMain = inMain && n > 0;
                if (n > LONGEST_LINE || inMain && !joinLine(text, at, n)) {
                    return false;
                }
                at = stop + 1;
            }
            return closeLine();
        }

        private int lineStop(Row text, int at) {
            int stop = at;
            while (stop < text.length && text.at(stop) != 10) {
                stop++;
            }
            return stop;
        }

        private int lineLength(Row text, int at, int stop) {
            boolean hasReturn = stop < text.length && stop > at && text.at(stop - 1) == 13;
            return hasReturn ? stop - at - 1 : stop - at;
        }

        private boolean joinLine(Row text, int at, int n) {
            if (text.at(at) == 32) {
                return openStart != NONE && joined.addPart(text, at + 1, n - 1);
            }
            if (!closeLine()) {
                return false;
            }
            openStart = joined.length;
            return joined.addPart(text, at, n);
        }

        /** A line can be judged only when it is known that none goes on with it. */
        private boolean closeLine() {
            if (openStart == NONE) {
                return true;
            }
            int n = nameLengthOf(openStart);
            int colon = openStart + n;
            if (n == 0 || joined.at(colon) != 58 || joined.at(colon + 1) != 32
                    || lines >= MOST_LINES || isKnown(openStart, n)) {
                return false;
            }
            starts[lines] = openStart;
            nameLengths[lines] = n;
            lines++;
            if (n == asked.length && isSameName(joined, openStart, asked, 0, n)) {
                valueStart = colon + 2;
                valueLength = joined.length - valueStart;
            }
            return true;
        }

        private int nameLengthOf(int start) {
            int n = 0;
            while (start + n < joined.length && isNameByte(joined.at(start + n))) {
                n++;
            }
            return n;
        }

        private boolean isKnown(int start, int n) {
            for (int i = 0; i < lines && i < MOST_LINES; i++) {
                if (nameLengths[i] == n && isSameName(joined, starts[i], joined, start, n)) {
                    return true;
                }
            }
            return false;
        }

        private static boolean isNameByte(int b) {
            return b >= 65 && b <= 90 || b >= 97 && b <= 122 || b >= 48 && b <= 57 || b == 45 || b == 95;
        }

        private static boolean isSameName(Row one, int i, Row other, int j, int n) {
            for (int k = 0; k < n; k++) {
                if (smallLetter(one.at(i + k)) != smallLetter(other.at(j + k))) {
                    return false;
                }
            }
            return true;
        }

        private static int smallLetter(int b) {
            return b >= 65 && b <= 90 ? b + 32 : b;
        }
    }

    /** The lines of index.txt: where each one's name is. */
    private static final class IndexLines {
        private final int[] starts = new int[MOST_MOUNTS];
        private final int[] lengths = new int[MOST_MOUNTS];
        private int lines = 0;

        /** False if a line isn't as it must be, or is one too many: lines is that line's number then. */
        boolean learn(Row text) {
            lines = 0;
            int at = 0;
            for (int line = 0; line <= MOST_MOUNTS && at < text.length; line++) {
                int n = nameLengthOf(text, at);
                if (n < 1 || line >= MOST_MOUNTS) {
                    return false;
                }
                starts[line] = at + 3;
                lengths[line] = n;
                lines = line + 1;
                at += n + 5;
            }
            return true;
        }

        /** How long the name is in the line that begins there; -1 if it isn't such a line. */
        private int nameLengthOf(Row text, int at) {
            if (text.at(at) != 45 || text.at(at + 1) != 32 || text.at(at + 2) != 34) {
                return NONE;
            }
            int stop = at + 3;
            while (stop < text.length && text.at(stop) != 34 && text.at(stop) != 10) {
                stop++;
            }
            return text.at(stop) == 34 && text.at(stop + 1) == 10 ? stop - at - 3 : NONE;
        }
    }

    private final Unpacker unpacker = new Unpacker();
    private final Manifest manifest = new Manifest();
    private final IndexLines indexLines = new IndexLines();
    private final Row typed = new Row(MOST_LETTERS);
    private final Row manifestName = new Row(MOST_LETTERS);
    private final Row indexName = new Row(MOST_LETTERS);
    private final Row keptValue = new Row(MOST_BYTES);
    private Row keptEntry = new Row(MOST_BYTES);
    private Row scratch = new Row(MOST_BYTES);
    private Archive tape = new Archive();
    private Archive outer = new Archive();
    private boolean hasOuter = false;
    private Archive[] mounts = new Archive[MOST_MOUNTS];
    // What throws must change nothing: mounts are made here, and take their place when nothing can go wrong any more.
    private Archive[] stage = new Archive[MOST_MOUNTS];
    private int mountCount = 0;
    private int latestFault = NO_FAULT;
    private int latestPlace = NONE;

    public NestedArchives() {
        manifestName.addText(MANIFEST_NAME);
        indexName.addText(INDEX_NAME);
        for (int i = 0; i < MOST_MOUNTS; i++) {
            mounts[i] = new Archive();
            stage[i] = new Archive();
        }
    }

    public boolean feed(int a, int b, int c, int d, int e) {
        if (tape.row.length > MOST_BYTES - 20) {
            return false;
        }
        feedInt(a);
        feedInt(b);
        feedInt(c);
        feedInt(d);
        feedInt(e);
        return true;
    }

    public boolean end(int n) {
        if (n < 0 || n > tape.row.length) {
            return false;
        }
        tape.row.length = n;
        return true;
    }

    public int open() throws IllegalArgumentException {
        int found = tape.survey();
        if (found != NO_FAULT) {
            tape.row.clear();
            note(found, tape.faultPlace);
            throw new IllegalArgumentException("the tape is no archive");
        }
        Archive opened = tape;
        tape = outer;
        tape.row.clear();
        outer = opened;
        hasOuter = true;
        mountCount = 0;
        keptEntry.clear();
        return outer.entries;
    }

    public int fault() {
        return latestFault;
    }

    public int place() {
        return latestPlace;
    }

    public int count(int m) {
        if (m == -1) {
            return hasOuter ? 1 + mountCount : 0;
        }
        Archive archive = archiveOf(m);
        return archive == null ? NONE : archive.entries;
    }

    public long entry(int m, int k, int what) throws IndexOutOfBoundsException, IllegalArgumentException {
        Archive archive = archiveOf(m);
        if (archive == null || !archive.hasEntry(k)) {
            throw new IndexOutOfBoundsException("no such entry");
        }
        switch (what) {
            case 0:
                return archive.size(k);
            case 1:
                return archive.packedSize(k);
            case 2:
                return archive.method(k);
            case 3:
                return archive.sum(k);
            case 4:
                return archive.flags(k);
            case 5:
                return archive.nameLength(k);
            default:
                throw new IllegalArgumentException("no such property");
        }
    }

    public int letter(int m, int k, int i) throws IndexOutOfBoundsException {
        Archive archive = archiveOf(m);
        if (archive == null || !archive.hasEntry(k)) {
            throw new IndexOutOfBoundsException("no such entry");
        }
        return archive.nameByte(k, i);
    }

    public boolean type(long w) {
        int more = 0;
        for (int shift = 56; shift >= 0; shift -= 8) {
            int b = (int) (w >>> shift) & 255;
            if (b != 0 && !isLetter(b)) {
                return false;
            }
            more += b == 0 ? 0 : 1;
        }
        if (more > MOST_LETTERS - typed.length) {
            return false;
        }
        for (int shift = 56; shift >= 0; shift -= 8) {
            int b = (int) (w >>> shift) & 255;
            if (b != 0) {
                typed.add(b);
            }
        }
        return true;
    }

    public int number(int m) throws IndexOutOfBoundsException {
        Archive archive = archiveOf(m);
        int k = archive == null ? NONE : archive.lookUp(typed, 0, typed.length);
        typed.clear();
        if (archive == null) {
            throw new IndexOutOfBoundsException("no such archive");
        }
        return k;
    }

    public int find(int m) throws IllegalArgumentException {
        int found = m < 1 ? NONE : searchMounts(m);
        typed.clear();
        if (m < 1) {
            throw new IllegalArgumentException("mounts are counted from 1 on");
        }
        return found;
    }

    public int read(int m, int k) throws IndexOutOfBoundsException, IllegalArgumentException {
        Archive archive = archiveOf(m);
        if (archive == null || !archive.hasEntry(k)) {
            throw new IndexOutOfBoundsException("no such entry");
        }
        int found = unpackEntry(archive, k, scratch);
        if (found != NO_FAULT) {
            note(found, k);
            throw new IllegalArgumentException("the entry can't be read");
        }
        Row fresh = scratch;
        scratch = keptEntry;
        keptEntry = fresh;
        return keptEntry.length;
    }

    public int octet(int i) {
        return keptEntry.at(i);
    }

    public int mount(int k) throws IndexOutOfBoundsException, IllegalArgumentException, IllegalStateException {
        if (!hasOuter || !outer.hasEntry(k)) {
            throw new IndexOutOfBoundsException("no such entry");
        }
        int found = stageMount(0, k);
        if (found != NO_FAULT) {
            note(found, found >= UNKNOWN_METHOD ? k : stage[0].faultPlace);
            throw new IllegalArgumentException("the entry can't be mounted");
        }
        if (mountCount >= MOST_MOUNTS) {
            throw new IllegalStateException("there are six mounts");
        }
        Archive fresh = stage[0];
        stage[0] = mounts[mountCount];
        mounts[mountCount] = fresh;
        mountCount++;
        return mountCount;
    }

    public int index() throws IllegalStateException, IllegalArgumentException {
        if (!hasOuter) {
            throw new IllegalStateException("there is no outer archive");
        }
        int k = outer.lookUp(indexName, 0, indexName.length);
        int found = k == NONE ? WRONG_INDEX : unpackEntry(outer, k, scratch);
        if (found != NO_FAULT) {
            note(found, k);
            throw new IllegalArgumentException("there is no index that can be read");
        }
        if (!indexLines.learn(scratch)) {
            note(WRONG_INDEX, indexLines.lines);
            throw new IllegalArgumentException("a line of the index is wrong, or one too many");
        }
        for (int line = 0; line < indexLines.lines && line < MOST_MOUNTS; line++) {
            k = outer.lookUp(scratch, indexLines.starts[line], indexLines.lengths[line]);
            found = k == NONE ? NO_SUCH_LINE_ENTRY : stageMount(line, k);
            if (found != NO_FAULT) {
                note(found, line);
                throw new IllegalArgumentException("a line's entry can't be mounted");
            }
        }
        Archive[] fresh = stage;
        stage = mounts;
        mounts = fresh;
        mountCount = indexLines.lines;
        return mountCount;
    }

    public int attribute(int m) throws IndexOutOfBoundsException, IllegalArgumentException {
        Archive archive = archiveOf(m);
        int k = archive == null ? NONE : archive.lookUp(manifestName, 0, manifestName.length);
        int found = k == NONE ? NO_FAULT : unpackEntry(archive, k, scratch);
        if (k != NONE && found == NO_FAULT && !manifest.learn(scratch, typed)) {
            found = WRONG_MANIFEST;
        }
        typed.clear();
        if (archive == null) {
            throw new IndexOutOfBoundsException("no such archive");
        }
        if (found != NO_FAULT) {
            note(found, k);
            throw new IllegalArgumentException("the manifest is wrong or can't be read");
        }
        keptValue.clear();
        if (k == NONE || manifest.valueStart == NONE) {
            return NONE;
        }
        keptValue.addPart(manifest.joined, manifest.valueStart, manifest.valueLength);
        return keptValue.length;
    }

    public int value(int i) {
        return keptValue.at(i);
    }

    private static boolean isLetter(int b) {
        return b >= 33 && b <= 126;
    }

    private void feedInt(int w) {
        for (int shift = 24; shift >= 0; shift -= 8) {
            tape.row.add(w >>> shift & 255);
        }
    }

    private void note(int fault, int place) {
        latestFault = fault;
        latestPlace = place;
    }

    private Archive archiveOf(int m) {
        if (!hasOuter || m < 0 || m > mountCount || m > MOST_MOUNTS) {
            return null;
        }
        return m == 0 ? outer : mounts[m - 1];
    }

    private int searchMounts(int m) {
        for (int i = m; i >= 1 && i <= mountCount && i <= MOST_MOUNTS; i++) {
            int k = mounts[i - 1].lookUp(typed, 0, typed.length);
            if (k != NONE) {
                return 100 * i + k;
            }
        }
        return NONE;
    }

    /** The first of the faults 6 to 9; without one the target has the entry's bytes. */
    private int unpackEntry(Archive archive, int k, Row target) {
        int method = archive.method(k);
        if ((archive.flags(k) & 1) == 1 || method != 0 && method != 8) {
            return UNKNOWN_METHOD;
        }
        long size = archive.size(k);
        if (size > MOST_BYTES) {
            return TOO_BIG;
        }
        target.clear();
        int start = archive.dataPlace(k);
        int packed = (int) archive.packedSize(k);
        boolean fine = method == 0
                ? packed == size && target.addPart(archive.row, start, packed)
                : unpacker.unpack(archive.row, start, packed, target, (int) size);
        if (!fine) {
            return WRONG_DATA;
        }
        return sumOf(target) == archive.sum(k) ? NO_FAULT : WRONG_SUM;
    }

    private static long sumOf(Row row) {
        int sum = -1;
        for (int i = 0; i < row.length; i++) {
            sum ^= row.at(i);
            sum = sum >>> 4 ^ SUM_STEPS[sum & 15];
            sum = sum >>> 4 ^ SUM_STEPS[sum & 15];
        }
        return ~sum & 0xFFFFFFFFL;
    }

    private int stageMount(int i, int k) {
        int found = unpackEntry(outer, k, stage[i].row);
        return found == NO_FAULT ? stage[i].survey() : found;
    }
}
