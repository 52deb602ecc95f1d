import java.util.Random;

/** All promises: runs of calls drawn by a fixed seed, over right and broken archives, compared with the model. */
public final class ModelTest {
    private static final String[] NAMES = {"a", "lib/b.jar", "c", "d", "index.txt", "META-INF/MANIFEST.MF", "e~", "Main", "X-1"};
    private static final String[] TYPED = {"Main", "main", "X-1", "x_1", "A", "b", "zz", ""};
    /** What later calls answer is free. */
    private static final int MOST_CALLS = 512;
    private static final int[] ODD = {-1, 7, 64, Integer.MIN_VALUE, Integer.MAX_VALUE};

    private final Random random;
    private final NestedArchives x = new NestedArchives();
    private final Model model = new Model();
    private final int run;
    private int calls = 0;
    private static final java.util.Map<String, Integer> SEEN = new java.util.TreeMap<>();

    private ModelTest(int run) {
        this.run = run;
        this.random = new Random(run);
    }

    public static void main(String[] args) {
        int runs = args.length > 0 ? Integer.parseInt(args[0]) : 2500;
        for (int run = 0; run < runs; run++) {
            new ModelTest(run).go();
        }
        if (args.length > 0) {
            System.out.println(SEEN);
        }
        for (int fault = 0; fault <= 12; fault++) {
            Check.due("fault " + fault + " came", SEEN.getOrDefault("fault " + fault, 0) > 20, true);
        }
        Check.finish();
    }

    private void go() {
        for (int part = 0; part < 6; part++) {
            Maker maker = archive(0);
            byte[] bytes = maker.bytes();
            if (random.nextInt(4) == 0) {
                bytes[random.nextInt(bytes.length)] = (byte) random.nextInt(256);
            }
            if (bytes.length <= 8000) {
                feed(bytes);
            }
            call("open");
            if (count(-1) == 0 && part > 0) {
                continue;
            }
            if (random.nextBoolean()) {
                for (int i = random.nextInt(7); i > 0; i--) {
                    call("mount", random.nextInt(9));
                }
            }
            for (int i = 0; i < (count(-1) == 0 ? 10 : 40); i++) {
                someCall();
            }
        }
    }

    private void feed(byte[] bytes) {
        for (int i = 0; i < bytes.length; i += 20) {
            long[] w = new long[5];
            for (int j = 0; j < 20; j++) {
                int b = i + j < bytes.length ? bytes[i + j] & 255 : 0;
                w[j / 4] = (int) (w[j / 4] << 8 | b);
            }
            call("feed", w);
        }
        call("end", bytes.length);
    }

    private boolean rarely() {
        return random.nextInt(12) == 0;
    }

    private Maker archive(int depth) {
        Maker maker = new Maker();
        int n = random.nextInt(8) + 1;
        for (int i = 0; i < n; i++) {
            String name = NAMES[rarely() ? random.nextInt(NAMES.length) : (i + depth * 4) % NAMES.length];
            byte[] content = content(name, depth);
            Maker.Item item = random.nextBoolean() ? maker.store(name, content) : maker.pack(name, content);
            spoil(item);
        }
        if (rarely()) {
            maker.ahead = new byte[random.nextInt(30)];
        }
        if (rarely()) {
            maker.comment = random.nextBoolean() ? new Maker().bytes() : new byte[random.nextInt(30)];
        }
        if (rarely()) {
            maker.bothCountsMore = random.nextInt(3) - 1;
        }
        if (rarely()) {
            maker.directoryRest = new byte[random.nextInt(3)];
        }
        return maker;
    }

    private void spoil(Maker.Item item) {
        if (random.nextInt(3) != 0) {
            return;
        }
        switch (random.nextInt(14)) {
            case 0 -> item.flags = random.nextInt(4);
            case 1 -> item.method = random.nextInt(10);
            case 2 -> item.size += random.nextInt(3) - 1;
            case 3 -> item.size = 7999 + random.nextInt(4);
            case 4 -> item.sum ^= 1L << random.nextInt(32);
            case 5 -> item.extra = new byte[random.nextInt(300)];
            case 6 -> item.localExtra = new byte[random.nextInt(300)];
            case 7 -> {
                if (rarely()) {
                    item.localMark++;
                }
            }
            case 8 -> {
                if (rarely()) {
                    item.disk = 1;
                }
            }
            case 9 -> {
                if (item.packed.length > 0) {
                    item.packed = item.packed.clone();
                    item.packed[random.nextInt(item.packed.length)] ^= (byte) (1 << random.nextInt(8));
                }
            }
            case 10 -> item.comment = new byte[random.nextInt(20)];
            default -> {
            }
        }
    }

    private byte[] content(String name, int depth) {
        if (name.equals("index.txt")) {
            return Maker.text(index());
        }
        if (name.equals("META-INF/MANIFEST.MF")) {
            return Maker.text(manifest());
        }
        if (depth < 2 && random.nextInt(4) != 0) {
            byte[] inner = archive(depth + 1).bytes();
            return inner.length > 2500 ? new byte[] {1} : inner;
        }
        byte[] content = new byte[random.nextInt(100)];
        random.nextBytes(content);
        return content;
    }

    private String index() {
        StringBuilder text = new StringBuilder();
        int n = random.nextInt(rarely() ? 9 : 5);
        for (int i = 0; i < n; i++) {
            text.append("- \"").append(NAMES[random.nextInt(rarely() ? NAMES.length : 4)]).append("\"\n");
        }
        if (random.nextInt(6) == 0 && text.length() > 0) {
            int at = random.nextInt(text.length());
            text.setCharAt(at, "-\" \nab".charAt(random.nextInt(6)));
        }
        if (rarely() && text.length() > 0) {
            text.setLength(text.length() - 1);
        }
        return text.toString();
    }

    private String manifest() {
        String[] parts = {"Main: ", "X-1: ", "x_1: ", "A: ", "b: ", "\n", "\n", "\r\n", "\r\n", "\n ", "\r\n ", "value", "v", ":",
            "\r", "x".repeat(60), "\n\n"};
        StringBuilder text = new StringBuilder();
        if (random.nextBoolean()) {
            for (int i = random.nextInt(5); i >= 0; i--) {
                text.append(parts[i]).append(parts[9 + random.nextInt(5)]).append(parts[5 + random.nextInt(4)]);
            }
            return text.toString();
        }
        for (int i = random.nextInt(12); i > 0; i--) {
            text.append(parts[random.nextInt(parts.length)]);
        }
        return text.toString();
    }

    private int count(int m) {
        return Integer.parseInt(model.call("count", m));
    }

    /** Mostly an archive that there is, or the first one that there isn't. */
    private int archiveNumber() {
        return rarely() ? ODD[random.nextInt(ODD.length)] : random.nextInt(count(-1) + 1);
    }

    private int entryNumber(int m) {
        return rarely() ? ODD[random.nextInt(ODD.length)] : random.nextInt(Math.max(0, count(m)) + 1);
    }

    private void readSome(int m, int k) {
        call("read", m, k);
        for (int i = -1; i < 2; i++) {
            call("octet", rarely() ? byteNumber() : model.readLength() + i);
        }
    }

    private void attributeSome() {
        typeSome();
        call("attribute", archiveNumber());
        for (int i = -1; i < 2; i++) {
            call("value", rarely() ? byteNumber() : model.valueLength() + i);
        }
    }

    private int byteNumber() {
        return rarely() ? ODD[random.nextInt(ODD.length)] : random.nextInt(20);
    }

    private void typeSome() {
        String name = random.nextBoolean() ? NAMES[random.nextInt(NAMES.length)] : TYPED[random.nextInt(TYPED.length)];
        for (int i = 0; i < name.length(); i++) {
            call("type", name.charAt(i));
        }
        if (rarely()) {
            call("type", random.nextLong());
        }
    }

    private void someCall() {
        switch (random.nextInt(15)) {
            case 0 -> call("count", rarely() ? byteNumber() : random.nextInt(8) - 1);
            case 1 -> {
                int m = archiveNumber();
                call("entry", m, entryNumber(m), rarely() ? byteNumber() : random.nextInt(6));
            }
            case 2 -> {
                int m = archiveNumber();
                call("letter", m, entryNumber(m), byteNumber());
            }
            case 3 -> {
                typeSome();
                call("number", archiveNumber());
            }
            case 4 -> {
                typeSome();
                call("find", archiveNumber());
            }
            case 5, 6 -> {
                int m = archiveNumber();
                readSome(m, entryNumber(m));
            }
            case 7 -> call("octet", byteNumber());
            case 8, 9 -> call("mount", entryNumber(0));
            case 10 -> call("index");
            case 11, 12, 13 -> attributeSome();
            default -> call("value", byteNumber());
        }
    }

    /** Makes the call and looks at fault() and place(), as long as these three are promised anything. */
    private void call(String name, long... a) {
        calls += 3;
        if (calls > MOST_CALLS) {
            return;
        }
        String due = model.call(name, a);
        String got = Check.answer(() -> answer(name, a));
        String what = "run " + run + ": " + name + java.util.Arrays.toString(a);
        Check.due(what, got, due);
        if (name.equals("feed") || name.equals("type")) {
            calls -= 2;
        } else {
            Check.due(what + ": fault()", x.fault(), Long.parseLong(model.call("fault")));
            Check.due(what + ": place()", x.place(), Long.parseLong(model.call("place")));
            SEEN.merge("fault " + model.call("fault"), 1, Integer::sum);
            SEEN.merge(name + (due.endsWith("Exception") ? " " + due : due.startsWith("-1") ? " -1" : ""), 1, Integer::sum);
        }
    }

    private long answer(String name, long[] a) {
        switch (name) {
            case "feed": return x.feed((int) a[0], (int) a[1], (int) a[2], (int) a[3], (int) a[4]) ? 1 : 0;
            case "end": return x.end((int) a[0]) ? 1 : 0;
            case "open": return x.open();
            case "count": return x.count((int) a[0]);
            case "entry": return x.entry((int) a[0], (int) a[1], (int) a[2]);
            case "letter": return x.letter((int) a[0], (int) a[1], (int) a[2]);
            case "type": return x.type(a[0]) ? 1 : 0;
            case "number": return x.number((int) a[0]);
            case "find": return x.find((int) a[0]);
            case "read": return x.read((int) a[0], (int) a[1]);
            case "octet": return x.octet((int) a[0]);
            case "mount": return x.mount((int) a[0]);
            case "index": return x.index();
            case "attribute": return x.attribute((int) a[0]);
            default: return x.value((int) a[0]);
        }
    }
}
