import java.util.function.IntUnaryOperator;

/** Calls of the face in the units that tests think in. */
final class Calls {
    private Calls() {
    }

    /** Puts these bytes on an empty tape. */
    static void tape(NestedArchives x, byte[] bytes) {
        int[] w = new int[(bytes.length + 19) / 20 * 5];
        for (int i = 0; i < bytes.length; i++) {
            w[i / 4] |= (bytes[i] & 255) << 24 - 8 * (i % 4);
        }
        for (int i = 0; i < w.length; i += 5) {
            Check.due("feed", x.feed(w[i], w[i + 1], w[i + 2], w[i + 3], w[i + 4]), true);
        }
        Check.due("end", x.end(bytes.length), true);
    }

    static void open(NestedArchives x, Maker maker) {
        tape(x, maker.bytes());
        Check.due("open()", Check.answer(x::open), Integer.toString(maker.items.size()));
    }

    static NestedArchives opened(Maker maker) {
        NestedArchives x = new NestedArchives();
        open(x, maker);
        return x;
    }

    static void type(NestedArchives x, String name) {
        for (int i = 0; i < name.length(); i++) {
            Check.due("type", x.type(name.charAt(i)), true);
        }
    }

    static int number(NestedArchives x, int m, String name) {
        type(x, name);
        return x.number(m);
    }

    static int find(NestedArchives x, int m, String name) {
        type(x, name);
        return x.find(m);
    }

    static int attribute(NestedArchives x, int m, String name) {
        type(x, name);
        return x.attribute(m);
    }

    /** What octet() tells, as a text. */
    static String octets(NestedArchives x) {
        return told(x::octet);
    }

    /** What value() tells, as a text. */
    static String values(NestedArchives x) {
        return told(x::value);
    }

    private static String told(IntUnaryOperator call) {
        StringBuilder text = new StringBuilder();
        int b = call.applyAsInt(0);
        while (b >= 0) {
            text.append((char) b);
            b = call.applyAsInt(text.length());
        }
        return text.toString();
    }

    /** What was read is this. Of a long one the ends alone are looked at: an object has 512 calls, and a full tape takes 401. */
    static void octetsAre(String what, NestedArchives x, String content) {
        ends(what + ": octet ", x::octet, content);
    }

    /** The value that is kept is this; of a long one the ends alone are looked at. */
    static void valueIs(String what, NestedArchives x, String content) {
        ends(what + ": value ", x::value, content);
    }

    private static void ends(String what, IntUnaryOperator call, String content) {
        int n = content.length();
        for (int i = 0; i < n; i = i == 39 ? Math.max(40, n - 40) : i + 1) {
            Check.due(what + i, call.applyAsInt(i), content.charAt(i));
        }
        Check.due(what + n, call.applyAsInt(n), -1);
        Check.due(what + -1, call.applyAsInt(-1), -1);
    }
}
