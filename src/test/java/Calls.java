/** Calls of the face in the units that tests think in. */
final class Calls {
    private Calls() {
    }

    /** Puts these bytes on an empty tape. */
    static void tape(NestedArchives x, byte[] bytes) {
        int[] w = new int[(bytes.length + 19) / 20 * 5];
        for (int i = 0; i < bytes.length; i++) {
            w[i / 4] |= (bytes[i] & 255) << 24 - 8 * (i % 4);
        }
        for (int i = 0; i < w.length; i += 5) {
            Check.due("feed", x.feed(w[i], w[i + 1], w[i + 2], w[i + 3], w[i + 4]), true);
        }
        Check.due("end", x.end(bytes.length), true);
    }

    static void open(NestedArchives x, Maker maker) {
        tape(x, maker.bytes());
        Check.due("open()", Check.answer(x::open), Integer.toString(maker.items.size()));
    }

    static NestedArchives opened(Maker maker) {
        NestedArchives x = new NestedArchives();
        open(x, maker);
        return x;
    }

    static void type(NestedArchives x, String name) {
        for (int i = 0; i < name.length(); i++) {
            Check.due("type", x.type(name.charAt(i)), true);
        }
    }

    static int number(NestedArchives x, int m, String name) {
        type(x, name);
        return x.number(m);
    }

    static int find(NestedArchives x, int m, String name) {
        type(x, name);
        return x.find(m);
    }

    static int attribute(NestedArchives x, int m, String name) {
        type(x, name);
        return x.attribute(m);
    }

    /** What octet() tells, as a text. */
    static String octets(NestedArchives x) {
        StringBuilder text = new StringBuilder();
        for (int i = 0; x.octet(i) >= 0; i++) {
            text.append((char) x.octet(i));
        }
        return text.toString();
    }

    /** What value() tells, as a text. */
    static String values(NestedArchives x) {
        StringBuilder text = new StringBuilder();
        for (int i = 0; x.value(i) >= 0; i++) {
            text.append((char) x.value(i));
        }
        return text.toString();
    }
}
