import java.nio.charset.StandardCharsets;
import java.util.ArrayList;
import java.util.Arrays;
import java.util.HashSet;
import java.util.List;
import java.util.Set;
import java.util.regex.Matcher;
import java.util.regex.Pattern;
import java.util.zip.DataFormatException;
import java.util.zip.Inflater;

/** The document once more, written another way and with the Java library, to be compared with. */
final class Model {
    /** What a fault is inside the model. */
    private static final class Fault extends RuntimeException {
        private static final long serialVersionUID = 1L;
        final int number;
        final int place;

        Fault(int number, int place) {
            this.number = number;
            this.place = place;
        }
    }

    private static final class Entry {
        String name;
        long size;
        long packed;
        int method;
        long sum;
        int flags;
        byte[] data;
    }

    private String tape = "";
    private String typed = "";
    private List<List<Entry>> archives = new ArrayList<>();
    private String read = "";
    private String value = "";
    private int fault = 0;
    private int place = -1;

    private static long number(byte[] b, int at, int n) {
        long value = 0;
        for (int i = n - 1; i >= 0; i--) {
            value = value << 8 | b[at + i] & 255;
        }
        return value;
    }

    private static boolean mark(byte[] b, int at, int third, int fourth) {
        return Arrays.equals(Arrays.copyOfRange(b, at, at + 4), new byte[] {80, 75, (byte) third, (byte) fourth});
    }

    private static String text(byte[] b) {
        return new String(b, StandardCharsets.ISO_8859_1);
    }

    private static void must(boolean holds, int number, int place) {
        if (!holds) {
            throw new Fault(number, place);
        }
    }

    private static List<Entry> survey(byte[] b) {
        int e = -1;
        for (int i = 0; i + 22 <= b.length; i++) {
            if (mark(b, i, 5, 6) && i + 22 + number(b, i + 20, 2) == b.length) {
                e = i;
            }
        }
        must(e >= 0, 1, -1);
        long n = number(b, e + 8, 2);
        long directory = e - number(b, e + 12, 4);
        long base = directory - number(b, e + 16, 4);
        must(number(b, e + 4, 4) == 0 && n == number(b, e + 10, 2) && n <= 64 && directory >= 0 && base >= 0, 2, -1);
        List<Entry> entries = new ArrayList<>();
        Set<String> names = new HashSet<>();
        int h = (int) directory;
        for (int k = 0; k < n; k++) {
            must(h + 46 <= e && mark(b, h, 1, 2) && number(b, h + 34, 2) == 0, 3, k);
            long next = h + 46 + number(b, h + 28, 2) + number(b, h + 30, 2) + number(b, h + 32, 2);
            must(next <= e, 3, k);
            Entry entry = new Entry();
            entry.flags = (int) number(b, h + 8, 2);
            entry.method = (int) number(b, h + 10, 2);
            entry.sum = number(b, h + 16, 4);
            entry.packed = number(b, h + 20, 4);
            entry.size = number(b, h + 24, 4);
            entry.name = text(Arrays.copyOfRange(b, h + 46, h + 46 + (int) number(b, h + 28, 2)));
            must(entry.name.matches("[!-~]{1,40}") && names.add(entry.name), 4, k);
            long l = base + number(b, h + 42, 4);
            must(l + 30 <= directory && mark(b, (int) l, 3, 4), 5, k);
            int afterName = (int) l + 30 + entry.name.length();
            must(number(b, (int) l + 26, 2) == entry.name.length() && afterName <= directory
                    && text(Arrays.copyOfRange(b, (int) l + 30, afterName)).equals(entry.name), 5, k);
            long data = afterName + number(b, (int) l + 28, 2);
            must(data + entry.packed <= directory, 5, k);
            entry.data = Arrays.copyOfRange(b, (int) data, (int) (data + entry.packed));
            entries.add(entry);
            h = (int) next;
        }
        must(h == e, 3, (int) n);
        return entries;
    }

    private static byte[] content(List<Entry> archive, int k) {
        Entry entry = archive.get(k);
        must(entry.flags % 2 == 0 && (entry.method == 0 || entry.method == 8), 6, k);
        must(entry.size <= 8000, 7, k);
        byte[] content = entry.method == 0 ? entry.data : unpacked(entry.data);
        must(content != null && content.length == entry.size, 8, k);
        must(Maker.sum(content) == entry.sum, 9, k);
        return content;
    }

    private static byte[] unpacked(byte[] packed) {
        Inflater inflater = new Inflater(true);
        try {
            inflater.setInput(packed);
            byte[] part = new byte[8001];
            int n = 0;
            int more = 1;
            while (more > 0 && n < part.length) {
                more = inflater.inflate(part, n, part.length - n);
                n += more;
            }
            return inflater.finished() && inflater.getRemaining() == 0 ? Arrays.copyOf(part, n) : null;
        } catch (DataFormatException e) {
            return null;
        } finally {
            inflater.end();
        }
    }

    private static int indexOf(List<Entry> archive, String name) {
        for (int k = 0; k < archive.size(); k++) {
            if (archive.get(k).name.equals(name)) {
                return k;
            }
        }
        return -1;
    }

    private List<Entry> archive(int m) {
        if (m < 0 || m >= archives.size()) {
            throw new IndexOutOfBoundsException();
        }
        return archives.get(m);
    }

    private Entry entryOf(int m, int k) {
        List<Entry> archive = archive(m);
        if (k < 0 || k >= archive.size()) {
            throw new IndexOutOfBoundsException();
        }
        return archive.get(k);
    }

    int readLength() {
        return read.length();
    }

    int valueLength() {
        return value.length();
    }

    private static int at(String s, int i) {
        return i >= 0 && i < s.length() ? s.charAt(i) : -1;
    }

    private String use() {
        String name = typed;
        typed = "";
        return name;
    }

    /** Does what a call of that name does; a fault becomes what it is outside. */
    String call(String name, long... a) {
        try {
            return Long.toString(run(name, a));
        } catch (Fault f) {
            fault = f.number;
            place = f.place;
            return "IllegalArgumentException";
        } catch (IndexOutOfBoundsException | IllegalArgumentException | IllegalStateException e) {
            return e.getClass().getSimpleName();
        }
    }

    private long run(String name, long[] a) {
        switch (name) {
            case "feed": return feed(a);
            case "end": return end((int) a[0]);
            case "open": return open();
            case "fault": return fault;
            case "place": return place;
            case "count": return a[0] == -1 ? archives.size()
                    : a[0] >= 0 && a[0] < archives.size() ? archives.get((int) a[0]).size() : -1;
            case "entry": return entry(entryOf((int) a[0], (int) a[1]), (int) a[2]);
            case "letter": return at(entryOf((int) a[0], (int) a[1]).name, (int) a[2]);
            case "type": return type(a[0]);
            case "number": return numberOf((int) a[0]);
            case "find": return find((int) a[0]);
            case "read": return read((int) a[0], (int) a[1]);
            case "octet": return at(read, (int) a[0]);
            case "mount": return mount((int) a[0]);
            case "index": return index();
            case "attribute": return attribute((int) a[0]);
            case "value": return at(value, (int) a[0]);
            default: throw new UnsupportedOperationException(name);
        }
    }

    private long feed(long[] a) {
        if (tape.length() + 20 > 8000) {
            return 0;
        }
        StringBuilder more = new StringBuilder(tape);
        for (long w : a) {
            for (int shift = 24; shift >= 0; shift -= 8) {
                more.append((char) (w >> shift & 255));
            }
        }
        tape = more.toString();
        return 1;
    }

    private long end(int n) {
        if (n < 0 || n > tape.length()) {
            return 0;
        }
        tape = tape.substring(0, n);
        return 1;
    }

    private long open() {
        byte[] bytes = Maker.text(tape);
        tape = "";
        List<Entry> outer = survey(bytes);
        archives = new ArrayList<>(List.of(outer));
        read = "";
        return outer.size();
    }

    private static long entry(Entry entry, int what) {
        if (what < 0 || what > 5) {
            throw new IllegalArgumentException();
        }
        return new long[] {entry.size, entry.packed, entry.method, entry.sum, entry.flags, entry.name.length()}[what];
    }

    private long type(long w) {
        StringBuilder more = new StringBuilder(typed);
        for (int shift = 56; shift >= 0; shift -= 8) {
            if ((w >> shift & 255) != 0) {
                more.append((char) (w >> shift & 255));
            }
        }
        if (!more.toString().matches("[!-~]{0,40}")) {
            return 0;
        }
        typed = more.toString();
        return 1;
    }

    private long numberOf(int m) {
        String name = use();
        return indexOf(archive(m), name);
    }

    private long find(int m) {
        String name = use();
        if (m < 1) {
            throw new IllegalArgumentException();
        }
        for (long i = m; i < archives.size(); i++) {
            int k = indexOf(archives.get((int) i), name);
            if (k >= 0) {
                return 100 * i + k;
            }
        }
        return -1;
    }

    private long read(int m, int k) {
        entryOf(m, k);
        read = text(content(archives.get(m), k));
        return read.length();
    }

    private long mount(int k) {
        entryOf(0, k);
        List<Entry> fresh = survey(content(archives.get(0), k));
        if (archives.size() > 6) {
            throw new IllegalStateException();
        }
        archives.add(fresh);
        return archives.size() - 1;
    }

    private long index() {
        if (archives.isEmpty()) {
            throw new IllegalStateException();
        }
        List<Entry> outer = archives.get(0);
        int k = indexOf(outer, "index.txt");
        must(k >= 0, 11, -1);
        String rest = text(content(outer, k));
        List<String> names = new ArrayList<>();
        while (!rest.isEmpty()) {
            Matcher matcher = Pattern.compile("- \"([^\"\n]+)\"\n").matcher(rest);
            must(matcher.lookingAt() && names.size() < 6, 11, names.size());
            names.add(matcher.group(1));
            rest = rest.substring(matcher.end());
        }
        List<List<Entry>> fresh = new ArrayList<>(List.of(outer));
        for (int line = 0; line < names.size(); line++) {
            int entry = indexOf(outer, names.get(line));
            must(entry >= 0, 12, line);
            try {
                fresh.add(survey(content(outer, entry)));
            } catch (Fault f) {
                throw new Fault(f.number, line);
            }
        }
        archives = fresh;
        return names.size();
    }

    private long attribute(int m) {
        String name = use();
        List<Entry> archive = archive(m);
        int k = indexOf(archive, "META-INF/MANIFEST.MF");
        String found = k < 0 ? null : attributeIn(text(content(archive, k)), name, k);
        value = found == null ? "" : found;
        return found == null ? -1 : found.length();
    }

    private static String attributeIn(String manifest, String name, int k) {
        String[] lines = manifest.split("\r?\n", -1);
        for (String line : lines) {
            must(line.length() <= 72, 10, k);
        }
        String main = "";
        for (int i = 0; i < lines.length && !lines[i].isEmpty(); i++) {
            must(i > 0 || !lines[i].startsWith(" "), 10, k);
            main += lines[i].startsWith(" ") ? lines[i].substring(1) : (i == 0 ? "" : "\n") + lines[i];
        }
        String found = null;
        Set<String> names = new HashSet<>();
        for (String line : main.isEmpty() ? new String[0] : main.split("\n", -1)) {
            Matcher matcher = Pattern.compile("([A-Za-z0-9_-]+): (.*)", Pattern.DOTALL).matcher(line);
            must(matcher.matches() && names.add(matcher.group(1).toLowerCase(java.util.Locale.ROOT)), 10, k);
            found = matcher.group(1).equalsIgnoreCase(name) ? matcher.group(2) : found;
        }
        return found;
    }
}
