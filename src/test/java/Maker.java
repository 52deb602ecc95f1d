import java.io.ByteArrayOutputStream;
import java.nio.charset.StandardCharsets;
import java.util.ArrayList;
import java.util.List;
import java.util.zip.CRC32;
import java.util.zip.Deflater;

/** Makes archives, right ones and, by its fields, wrong ones in any single thing. */
final class Maker {
    /** One entry; what differs from a right entry is set before bytes() is called. */
    static final class Item {
        byte[] name;
        byte[] localName;
        byte[] packed;
        int method;
        int flags;
        long size;
        long sum;
        long packedSize;
        byte[] extra = new byte[0];
        byte[] comment = new byte[0];
        byte[] localExtra = new byte[0];
        int disk = 0;
        int mark = 0x02014b50;
        int localMark = 0x04034b50;
        long placeMore = 0;
        int nameLengthMore = 0;
        int extraLengthMore = 0;
        int commentLengthMore = 0;
        int localNameLengthMore = 0;
        int localExtraLengthMore = 0;
        private long place;
    }

    final List<Item> items = new ArrayList<>();
    byte[] ahead = new byte[0];
    byte[] aheadOfDirectory = new byte[0];
    byte[] directoryRest = new byte[0];
    byte[] between = new byte[0];
    byte[] comment = new byte[0];
    int commentLengthMore = 0;
    int diskA = 0;
    int diskB = 0;
    int countMore = 0;
    int bothCountsMore = 0;
    long directorySizeMore = 0;
    long directoryPlaceMore = 0;

    static byte[] text(String s) {
        return s.getBytes(StandardCharsets.ISO_8859_1);
    }

    static long sum(byte[] content) {
        CRC32 crc = new CRC32();
        crc.update(content);
        return crc.getValue();
    }

    static byte[] deflate(byte[] content, int level, int strategy) {
        Deflater deflater = new Deflater(level, true);
        deflater.setStrategy(strategy);
        deflater.setInput(content);
        deflater.finish();
        ByteArrayOutputStream out = new ByteArrayOutputStream();
        byte[] part = new byte[1000];
        while (!deflater.finished()) {
            out.write(part, 0, deflater.deflate(part));
        }
        deflater.end();
        return out.toByteArray();
    }

    Item add(String name, byte[] content, byte[] packed, int method) {
        Item item = new Item();
        item.name = text(name);
        item.localName = item.name;
        item.packed = packed;
        item.packedSize = packed.length;
        item.method = method;
        item.size = content.length;
        item.sum = sum(content);
        items.add(item);
        return item;
    }

    Item store(String name, byte[] content) {
        return add(name, content, content, 0);
    }

    Item store(String name, String content) {
        return store(name, text(content));
    }

    Item pack(String name, byte[] content) {
        return add(name, content, deflate(content, 9, Deflater.DEFAULT_STRATEGY), 8);
    }

    private static void put(ByteArrayOutputStream out, int n, long number) {
        for (int i = 0; i < n; i++) {
            out.write((int) (number >>> 8 * i) & 255);
        }
    }

    byte[] bytes() {
        ByteArrayOutputStream out = new ByteArrayOutputStream();
        out.writeBytes(ahead);
        for (Item item : items) {
            item.place = out.size() - ahead.length;
            putLocal(out, item);
        }
        out.writeBytes(aheadOfDirectory);
        int directory = out.size();
        for (Item item : items) {
            putHeader(out, item);
        }
        out.writeBytes(directoryRest);
        long size = out.size() - directory;
        out.writeBytes(between);
        put(out, 4, 0x06054b50);
        put(out, 2, diskA);
        put(out, 2, diskB);
        put(out, 2, items.size() + bothCountsMore);
        put(out, 2, items.size() + bothCountsMore + countMore);
        put(out, 4, size + directorySizeMore);
        put(out, 4, directory - ahead.length + directoryPlaceMore);
        put(out, 2, comment.length + commentLengthMore);
        out.writeBytes(comment);
        return out.toByteArray();
    }

    /** The bytes, with so many more told as a comment than there are. */
    byte[] bytesWith(int more) {
        commentLengthMore = more;
        return bytes();
    }

    /** A local header without data. */
    byte[] localOf(String name) {
        Item item = store(name, "");
        ByteArrayOutputStream out = new ByteArrayOutputStream();
        putLocal(out, item);
        return out.toByteArray();
    }

    /** How many bytes stand behind the base and ahead of the directory. */
    int bytesAheadOfDirectory() {
        ByteArrayOutputStream out = new ByteArrayOutputStream();
        for (Item item : items) {
            putLocal(out, item);
        }
        return out.size() + aheadOfDirectory.length;
    }

    private static void putLocal(ByteArrayOutputStream out, Item item) {
        put(out, 4, item.localMark);
        // What the document doesn't ask about a local header is made nonsense, so that nobody may use it.
        for (int i = 4; i < 26; i++) {
            out.write(i * 37 & 255);
        }
        put(out, 2, item.localName.length + item.localNameLengthMore);
        put(out, 2, item.localExtra.length + item.localExtraLengthMore);
        out.writeBytes(item.localName);
        out.writeBytes(item.localExtra);
        out.writeBytes(item.packed);
    }

    private static void putHeader(ByteArrayOutputStream out, Item item) {
        put(out, 4, item.mark);
        put(out, 4, 0xABCDEF01L);
        put(out, 2, item.flags);
        put(out, 2, item.method);
        put(out, 4, 0x12345678L);
        put(out, 4, item.sum);
        put(out, 4, item.packedSize);
        put(out, 4, item.size);
        put(out, 2, item.name.length + item.nameLengthMore);
        put(out, 2, item.extra.length + item.extraLengthMore);
        put(out, 2, item.comment.length + item.commentLengthMore);
        put(out, 2, item.disk);
        put(out, 2, 0x7788);
        put(out, 4, 0x99AABBCCL);
        put(out, 4, item.place + item.placeMore);
        out.writeBytes(item.name);
        out.writeBytes(item.extra);
        out.writeBytes(item.comment);
    }
}
