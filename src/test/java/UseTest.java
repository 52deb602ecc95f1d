import java.io.ByteArrayOutputStream;
import java.io.IOException;
import java.nio.charset.StandardCharsets;
import java.util.Map;
import java.util.TreeMap;
import java.util.jar.Attributes;
import java.util.jar.JarOutputStream;
import java.util.jar.Manifest;
import java.util.zip.CRC32;
import java.util.zip.ZipEntry;
import java.util.zip.ZipOutputStream;

/** README.md's example, on archives and manifests that the Java library writes; load and type stand there too. */
public final class UseTest {
    private static final String LONG_VALUE = "lib/some.jar ".repeat(20) + "end";

    private UseTest() {
    }

    public static void main(String[] args) throws IOException {
        asInReadme();
        packedOuter();
        wrongInner();
        Check.finish();
    }

    private static void asInReadme() throws IOException {
        NestedArchives x = new NestedArchives();
        load(x, outer(false));
        Check.due("open()", x.open(), 4);

        Check.due("index()", x.index(), 2);
        Check.due("count(-1)", x.count(-1), 3);

        type(x, "greeting.txt");
        int found = x.find(1);
        Check.due("find(1)", found, 201);
        Check.due("read", x.read(found / 100, found % 100), 5);
        Check.due("octets", text(x), "hello");

        type(x, "main-class");
        Check.due("attribute(1)", x.attribute(1), 9);
        Check.due("value(0)", x.value(0), 'M');
        Check.due("value(8)", x.value(8), 'a');
        Check.due("value(9)", x.value(9), -1);
    }

    /** The library ends each row of packed data with a sum and sizes of its own, and cuts manifests' lines at 72 bytes. */
    private static void packedOuter() throws IOException {
        NestedArchives x = new NestedArchives();
        load(x, outer(true));
        Check.due("open()", x.open(), 4);
        type(x, "lib/one.jar");
        Check.due("number(0)", x.number(0), 1);
        Check.due("mount(1)", x.mount(1), 1);
        Check.due("entry(0, 1, 2)", x.entry(0, 1, 2), 8);
        Check.due("flags", x.entry(0, 1, 4) & 8, 8);
        type(x, "Class-Path");
        Check.due("attribute(1)", x.attribute(1), LONG_VALUE.length());
        Calls.valueIs("Class-Path", x, LONG_VALUE);
        type(x, "Manifest-Version");
        Check.due("attribute(1)", x.attribute(1), 3);
        Calls.valueIs("Manifest-Version", x, "1.0");
        type(x, "Sealed");
        Check.due("an attribute behind the main lines", x.attribute(1), -1);
        type(x, "Main-Class");
        Check.due("an archive without a manifest", x.attribute(0), -1);
    }

    private static void wrongInner() throws IOException {
        NestedArchives x = new NestedArchives();
        load(x, outer(false));
        x.open();
        Check.fault("mount a text", x, () -> x.mount(3), 1, -1);
        Check.due("count(-1)", x.count(-1), 1);
    }

    private static byte[] outer(boolean packed) throws IOException {
        Map<String, byte[]> contents = new TreeMap<>();
        contents.put("index.txt", text("- \"lib/one.jar\"\n- \"lib/two.jar\"\n"));
        contents.put("lib/one.jar", jar(Map.of("Main-Class", "Main.java", "Class-Path", LONG_VALUE), "other.txt", "other"));
        contents.put("lib/two.jar", jar(Map.of(), "greeting.txt", "hello"));
        contents.put("notes.txt", text("no archive"));
        ByteArrayOutputStream out = new ByteArrayOutputStream();
        try (ZipOutputStream zip = new ZipOutputStream(out)) {
            for (Map.Entry<String, byte[]> content : contents.entrySet()) {
                zip.putNextEntry(packed ? new ZipEntry(content.getKey()) : stored(content.getKey(), content.getValue()));
                zip.write(content.getValue());
                zip.closeEntry();
            }
        }
        return out.toByteArray();
    }

    private static ZipEntry stored(String name, byte[] content) {
        ZipEntry entry = new ZipEntry(name);
        CRC32 sum = new CRC32();
        sum.update(content);
        entry.setMethod(ZipEntry.STORED);
        entry.setSize(content.length);
        entry.setCrc(sum.getValue());
        return entry;
    }

    private static byte[] jar(Map<String, String> attributes, String name, String content) throws IOException {
        Manifest manifest = new Manifest();
        manifest.getMainAttributes().put(Attributes.Name.MANIFEST_VERSION, "1.0");
        attributes.forEach(manifest.getMainAttributes()::putValue);
        Attributes section = new Attributes();
        section.putValue("Sealed", "true");
        manifest.getEntries().put(name, section);
        ByteArrayOutputStream out = new ByteArrayOutputStream();
        try (JarOutputStream jar = new JarOutputStream(out, manifest)) {
            jar.putNextEntry(new ZipEntry(name));
            jar.write(text(content));
            jar.closeEntry();
        }
        return out.toByteArray();
    }

    private static byte[] text(String s) {
        return s.getBytes(StandardCharsets.ISO_8859_1);
    }

    private static void load(NestedArchives x, byte[] bytes) {
        for (int i = 0; i < bytes.length; i += 20) {
            int[] w = new int[5];
            for (int j = 0; j < 20 && i + j < bytes.length; j++) {
                w[j / 4] |= (bytes[i + j] & 255) << 24 - 8 * (j % 4);
            }
            Check.due("feed", x.feed(w[0], w[1], w[2], w[3], w[4]), true);
        }
        Check.due("end", x.end(bytes.length), true);
    }

    private static void type(NestedArchives x, String name) {
        for (int i = 0; i < name.length(); i++) {
            Check.due("type", x.type(name.charAt(i)), true);
        }
    }

    private static String text(NestedArchives x) {
        StringBuilder text = new StringBuilder();
        for (int b = x.octet(0); b >= 0; b = x.octet(text.length())) {
            text.append((char) b);
        }
        return text.toString();
    }
}
