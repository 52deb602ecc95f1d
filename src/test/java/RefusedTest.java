import java.util.function.Supplier;
import java.util.function.ToLongFunction;

/**
 * What is refused changes nothing but what the document says. Two objects have the same calls behind them, one of them the
 * refused call too; after that both must tell the same, but for the name that is used, the tape that is empty, or the fault.
 */
public final class RefusedTest {
    private static final String INDEX = "index.txt";
    private static final String MANIFEST = "META-INF/MANIFEST.MF";
    private static final String ODD = "odd";
    private static final int[] OUTSIDE = {-1, Integer.MIN_VALUE, Integer.MAX_VALUE};

    public static void main(String[] args) {
        tape();
        opening();
        telling();
        names();
        reading();
        mounting();
        sixMounts();
        indexes();
        attributes();
        answersOfNothing();
        latestFault();
        Check.finish();
    }

    /** The tape that lies ready in all starts: its entries tell whether the name is "ke", used, or another one. */
    private static Maker ready() {
        Maker maker = new Maker();
        maker.store("pt", "ready");
        maker.store("kept", "");
        return maker;
    }

    private static Maker inner(String manifest) {
        Maker maker = new Maker();
        maker.store("i", "inner");
        maker.store(MANIFEST, manifest);
        return maker;
    }

    private static Maker outer(String index) {
        Maker maker = new Maker();
        maker.store("kept", "what was read");
        maker.store("pt", "");
        maker.store("in1", inner("A: 1\n").bytes());
        Maker unread = inner("A: 1\n");
        unread.items.get(1).sum ^= 1;
        maker.store("in2", unread.bytes());
        maker.store("in3", inner("A\n").bytes());
        maker.store(ODD, "").flags = 1;
        maker.store("big", "").size = 8001;
        maker.store("data", "").size = 1;
        maker.store("sum", "").sum = 1;
        Maker disk = new Maker();
        disk.diskA = 1;
        maker.store("disk", disk.bytes());
        Maker mark = inner("");
        mark.items.get(1).mark++;
        maker.pack("mark", mark.bytes());
        Maker name = inner("");
        name.items.get(0).name = Maker.text(" ");
        maker.pack("name", name.bytes());
        Maker local = inner("");
        local.items.get(1).localMark++;
        maker.pack("local", local.bytes());
        maker.store(INDEX, index);
        maker.store(MANIFEST, "Kept: the value\n");
        return maker;
    }

    private static int number(String name) {
        Maker maker = outer("");
        for (int k = 0; k < maker.items.size(); k++) {
            if (new String(maker.items.get(k).name).equals(name)) {
                return k;
            }
        }
        throw new IllegalArgumentException(name);
    }

    private static NestedArchives fresh() {
        NestedArchives x = new NestedArchives();
        Calls.tape(x, ready().bytes());
        Calls.type(x, "ke");
        return x;
    }

    /** Three mounts, something read, a value kept, a fault noted, a tape and the beginning of a name. */
    private static NestedArchives full(String index) {
        NestedArchives x = Calls.opened(outer(index));
        for (int k = 2; k <= 4; k++) {
            Check.due("mount", x.mount(k), k - 1);
        }
        return filledUp(x);
    }

    /** The same, but for the mounts, which an index has told. */
    private static NestedArchives byIndex() {
        NestedArchives x = Calls.opened(outer(line("in1") + line("in2") + line("in3")));
        Check.due("index", x.index(), 3);
        return filledUp(x);
    }

    private static NestedArchives filledUp(NestedArchives x) {
        x.read(0, 0);
        Calls.attribute(x, 0, "Kept");
        Check.fault("a fault ahead", x, () -> x.read(0, number(ODD)), 6, number(ODD));
        Calls.tape(x, ready().bytes());
        Calls.type(x, "ke");
        return x;
    }

    private static NestedArchives full() {
        return full("");
    }

    private static NestedArchives withSix() {
        NestedArchives x = full();
        for (int i = 4; i <= 6; i++) {
            Check.due("mount", x.mount(2), i);
        }
        return x;
    }

    /** What may change: "name" it is used, "tape" it is empty; of a fault below 0 the one before stays. */
    private static void refused(String what, Supplier<NestedArchives> start, ToLongFunction<NestedArchives> call,
            String answer, String changes, int fault, int place) {
        NestedArchives x = start.get();
        NestedArchives twin = start.get();
        Check.due(what, Check.answer(() -> call.applyAsLong(x)), answer);
        Check.due(what + ": fault()", x.fault(), fault < 0 ? twin.fault() : fault);
        Check.due(what + ": place()", x.place(), fault < 0 ? twin.place() : place);
        if (changes.contains("name")) {
            twin.find(1);
        }
        if (changes.contains("tape")) {
            twin.end(0);
        }
        Check.due(what + ": all else", Look.at(x, "pt"), Look.at(twin, "pt"));
    }

    private static void index(String what, ToLongFunction<NestedArchives> call, String changes) {
        refused(what, RefusedTest::full, call, "IndexOutOfBoundsException", changes, -1, 0);
        refused(what + ", by index", RefusedTest::byIndex, call, "IndexOutOfBoundsException", changes, -1, 0);
        refused(what + ", new object", RefusedTest::fresh, call, "IndexOutOfBoundsException", changes, -1, 0);
    }

    private static void fault(String what, ToLongFunction<NestedArchives> call, String changes, int fault, int place) {
        refused(what, RefusedTest::full, call, "IllegalArgumentException", changes, fault, place);
        refused(what + ", by index", RefusedTest::byIndex, call, "IllegalArgumentException", changes, fault, place);
    }

    /** A tape of n bytes that is an archive, and the name "ke". */
    private static NestedArchives filled(int n) {
        NestedArchives x = new NestedArchives();
        Maker maker = ready();
        maker.comment = new byte[n - maker.bytes().length];
        Calls.tape(x, maker.bytes());
        Calls.type(x, "ke");
        return x;
    }

    private static void tape() {
        for (int n : new int[] {7981, 7982, 7999, 8000}) {
            refused("feed behind " + n, () -> filled(n), x -> x.feed(1, 2, 3, 4, 5) ? 1 : 0, "0", "", -1, 0);
            refused("end behind " + n, () -> filled(n), x -> x.end(n + 1) ? 1 : 0, "0", "", -1, 0);
        }
        int length = ready().bytes().length;
        for (int n : new int[] {length + 1, length + 2, -1, -length, Integer.MIN_VALUE, Integer.MAX_VALUE}) {
            refused("end(" + n + ")", RefusedTest::full, x -> x.end(n) ? 1 : 0, "0", "", -1, 0);
        }
        refused("end at the end", RefusedTest::full, x -> x.end(length) ? 1 : 0, "1", "", -1, 0);
        NestedArchives x = filled(7980);
        Check.due("feed behind 7980", x.feed(1, 2, 3, 4, 5), true);
        Check.due("that was put", x.end(8000), true);
    }

    private static NestedArchives withTape(byte[] bytes) {
        NestedArchives x = full();
        x.end(0);
        Calls.tape(x, bytes);
        return x;
    }

    private static void opening() {
        Maker two = ready();
        two.diskB = 1;
        Maker three = ready();
        three.directoryRest = new byte[1];
        Maker four = ready();
        four.items.get(1).name = Maker.text("pt");
        Maker five = ready();
        five.items.get(0).packedSize = 1000;
        byte[][] wrong = {new byte[0], two.bytes(), three.bytes(), four.bytes(), five.bytes()};
        int[] places = {-1, -1, 2, 1, 0};
        for (int i = 0; i < wrong.length; i++) {
            byte[] bytes = wrong[i];
            refused("open() with fault " + (i + 1), () -> withTape(bytes), NestedArchives::open, "IllegalArgumentException",
                    "tape", i + 1, places[i]);
        }
        NestedArchives x = new NestedArchives();
        Calls.type(x, "ke");
        Check.fault("open() of a new object", x, x::open, 1, -1);
        Check.due("there is no archive then", x.count(-1), 0);
    }

    private static void telling() {
        int n = outer("").items.size();
        for (int out : OUTSIDE) {
            index("entry(" + out + ", 0, 0)", x -> x.entry(out, 0, 0), "");
            index("entry(0, " + out + ", 0)", x -> x.entry(0, out, 0), "");
            index("entry(0, " + out + ", 6)", x -> x.entry(0, out, 6), "");
            index("letter(" + out + ", 0, 0)", x -> x.letter(out, 0, 0), "");
            index("letter(0, " + out + ", 0)", x -> x.letter(0, out, 0), "");
            fault("entry(0, 0, " + out + ")", x -> x.entry(0, 0, out), "", -1, 0);
        }
        index("entry(4, 0, 0)", x -> x.entry(4, 0, 0), "");
        index("entry(0, n, 0)", x -> x.entry(0, n, 0), "");
        index("entry(3, 2, 0)", x -> x.entry(3, 2, 0), "");
        index("letter(4, 0, 0)", x -> x.letter(4, 0, 0), "");
        index("letter(0, n, 0)", x -> x.letter(0, n, 0), "");
        index("letter(3, 2, 0)", x -> x.letter(3, 2, 0), "");
        fault("entry(0, 0, 6)", x -> x.entry(0, 0, 6), "", -1, 0);
        fault("entry(3, 1, 6)", x -> x.entry(3, 1, 6), "", -1, 0);
        refused("entry(3, 1, 5)", RefusedTest::full, x -> x.entry(3, 1, 5), "20", "", -1, 0);
    }

    private static NestedArchives named(String name) {
        Maker maker = new Maker();
        maker.store("a".repeat(38) + "pt", "");
        NestedArchives x = Calls.opened(maker);
        Calls.type(x, name);
        return x;
    }

    private static void names() {
        for (int shift = 0; shift < 64; shift += 8) {
            for (long b : new long[] {1, 32, 127, 128, 255}) {
                long w = 0x6161616161616161L & ~(255L << shift) | b << shift;
                refused("type(" + Long.toHexString(w) + ")", RefusedTest::full, x -> x.type(w) ? 1 : 0, "0", "", -1, 0);
            }
        }
        refused("three behind 38", () -> named("a".repeat(38)), x -> x.type(0x616161L) ? 1 : 0, "0", "", -1, 0);
        refused("eight behind 38", () -> named("a".repeat(38)), x -> x.type(0x6161616161616161L) ? 1 : 0, "0", "", -1, 0);
        refused("nothing behind 38", () -> named("a".repeat(38)), x -> x.type(0) ? 1 : 0, "1", "", -1, 0);
        for (int m : new int[] {4, -1, Integer.MIN_VALUE, Integer.MAX_VALUE}) {
            index("number(" + m + ")", x -> x.number(m), "name");
        }
        for (int m : new int[] {0, -1, Integer.MIN_VALUE}) {
            fault("find(" + m + ")", x -> x.find(m), "name", -1, 0);
            refused("find(" + m + "), new object", RefusedTest::fresh, x -> x.find(m), "IllegalArgumentException", "name", -1, 0);
        }
    }

    private static void reading() {
        int n = outer("").items.size();
        for (int out : OUTSIDE) {
            index("read(" + out + ", 0)", x -> x.read(out, 0), "");
            index("read(0, " + out + ")", x -> x.read(0, out), "");
        }
        index("read(4, 0)", x -> x.read(4, 0), "");
        index("read(0, n)", x -> x.read(0, n), "");
        index("read(1, 2)", x -> x.read(1, 2), "");
        String[] names = {ODD, "big", "data", "sum"};
        for (int i = 0; i < 4; i++) {
            int k = number(names[i]);
            fault("read of " + names[i], x -> x.read(0, k), "", 6 + i, k);
        }
        fault("read of a mount's", x -> x.read(2, 1), "", 9, 1);
    }

    private static void mounting() {
        int n = outer("").items.size();
        for (int out : OUTSIDE) {
            index("mount(" + out + ")", x -> x.mount(out), "");
        }
        index("mount(n)", x -> x.mount(n), "");
        String[] names = {"kept", "disk", "mark", "name", "local", ODD, "big", "data", "sum"};
        int[] inside = {-1, -1, 1, 0, 1};
        for (int i = 0; i < names.length; i++) {
            int k = number(names[i]);
            fault("mount of " + names[i], x -> x.mount(k), "", i + 1, i < 5 ? inside[i] : k);
        }
    }

    private static void sixMounts() {
        refused("the seventh", RefusedTest::withSix, x -> x.mount(2), "IllegalStateException", "", -1, 0);
        refused("the seventh, of no archive", RefusedTest::withSix, x -> x.mount(0), "IllegalArgumentException", "", 1, -1);
        refused("the seventh, of none that is read", RefusedTest::withSix, x -> x.mount(number("sum")),
                "IllegalArgumentException", "", 9, number("sum"));
        refused("the seventh, of no entry", RefusedTest::withSix, x -> x.mount(-1), "IndexOutOfBoundsException", "", -1, 0);
        refused("the seventh archive's entry", RefusedTest::withSix, x -> x.entry(7, 0, 0), "IndexOutOfBoundsException", "", -1, 0);
    }

    private static void index(String lines, int fault, int place) {
        refused(lines.replace("\n", "|"), () -> full(lines), NestedArchives::index, "IllegalArgumentException", "", fault, place);
    }

    private static String line(String name) {
        return "- \"" + name + "\"\n";
    }

    private static void indexes() {
        refused("index() of a new object", RefusedTest::fresh, NestedArchives::index, "IllegalStateException", "", -1, 0);
        refused("index() without one", () -> {
            NestedArchives x = Calls.opened(inner(""));
            Calls.tape(x, ready().bytes());
            Calls.type(x, "ke");
            return x;
        }, NestedArchives::index, "IllegalArgumentException", "", 11, -1);
        String good = line("in1");
        index(good + "\n", 11, 1);
        index(good.repeat(7), 11, 6);
        index(good.repeat(5) + line("in9"), 12, 5);
        String[] names = {"kept", "disk", "mark", "name", "local", ODD, "big", "data", "sum"};
        for (int i = 0; i < names.length; i++) {
            index(line(names[i]), i + 1, 0);
            index(good.repeat(5) + line(names[i]), i + 1, 5);
        }
        for (int fault = 6; fault <= 9; fault++) {
            int now = fault;
            refused("an index with fault " + now, () -> {
                Maker maker = inner("");
                Maker.Item item = maker.store(INDEX, "");
                item.flags = now == 6 ? 1 : 0;
                item.size = now == 7 ? 8001 : now == 8 ? 1 : 0;
                item.sum = now == 9 ? 1 : 0;
                NestedArchives x = Calls.opened(maker);
                Calls.tape(x, ready().bytes());
                Calls.type(x, "ke");
                return x;
            }, NestedArchives::index, "IllegalArgumentException", "", now, 2);
        }
    }

    private static void attributes() {
        for (int m : new int[] {4, -1, Integer.MIN_VALUE, Integer.MAX_VALUE}) {
            index("attribute(" + m + ")", x -> x.attribute(m), "name");
        }
        fault("a manifest that can't be read", x -> x.attribute(2), "name", 9, 1);
        fault("a wrong manifest", x -> x.attribute(3), "name", 10, 1);
    }

    /** Answers of -1 that aren't refusals change nothing either, but for the name. */
    private static void answersOfNothing() {
        for (int i : new int[] {-1, -2, 13, Integer.MIN_VALUE, Integer.MAX_VALUE}) {
            refused("octet(" + i + ")", RefusedTest::full, x -> x.octet(i), "-1", "", -1, 0);
            refused("value(" + i + ")", RefusedTest::full, x -> x.value(i), "-1", "", -1, 0);
            refused("letter(0, 0, " + i + ")", RefusedTest::full, x -> x.letter(0, 0, i), "-1", "", -1, 0);
        }
        for (int m : new int[] {4, -2, Integer.MIN_VALUE, Integer.MAX_VALUE}) {
            refused("count(" + m + ")", RefusedTest::full, x -> x.count(m), "-1", "", -1, 0);
        }
        refused("number(0)", RefusedTest::full, x -> x.number(0), "-1", "name", -1, 0);
        refused("find(1)", RefusedTest::full, x -> x.find(1), "-1", "name", -1, 0);
        refused("find(4)", RefusedTest::full, x -> x.find(4), "-1", "name", -1, 0);
        refused("find(1), new object", RefusedTest::fresh, x -> x.find(1), "-1", "name", -1, 0);
        refused("fault()", RefusedTest::full, x -> x.fault(), "6", "", -1, 0);
        refused("place()", RefusedTest::full, x -> x.place(), Integer.toString(number(ODD)), "", -1, 0);
        refused("octet(12)", RefusedTest::full, x -> x.octet(12), Integer.toString('d'), "", -1, 0);
        refused("value(8)", RefusedTest::full, x -> x.value(8), Integer.toString('e'), "", -1, 0);
    }

    /** The latest fault is told until another one comes; right calls and other exceptions leave it. */
    private static void latestFault() {
        NestedArchives x = full();
        Check.fault("one", x, () -> x.read(0, number("sum")), 9, number("sum"));
        Check.fault("then another", x, () -> x.mount(0), 1, -1);
        Check.fault("then the first again", x, () -> x.read(0, number("sum")), 9, number("sum"));
        x.read(0, 0);
        x.mount(2);
        x.index();
        x.attribute(0);
        Check.throwsIndex("no entry", () -> x.read(0, -1));
        Check.throwsArgument("no what", () -> x.entry(0, 0, 7));
        Check.throwsArgument("no mount", () -> x.find(0));
        Check.due("fault() stays", x.fault(), 9);
        Check.due("place() stays", x.place(), number("sum"));
        Check.due("open()", x.open(), 2);
        Check.due("fault() stays behind open()", x.fault(), 9);
        Check.due("place() stays behind open()", x.place(), number("sum"));
    }
}
