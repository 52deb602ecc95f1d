import com.sun.management.ThreadMXBean;
import java.lang.management.ManagementFactory;

/** The room that all calls of a run share: rows are made once and used again. */
public final class RoomTest {
    private static final ThreadMXBean THREADS = (ThreadMXBean) ManagementFactory.getThreadMXBean();

    public static void main(String[] args) {
        byte[] archive = dear().bytes();
        run(archive);
        Check.due("bytes made by the dearest run of 512 calls: " + run(archive), run(archive) < 300_000, true);
        long before = THREADS.getThreadAllocatedBytes(Thread.currentThread().getId());
        new NestedArchives();
        long made = THREADS.getThreadAllocatedBytes(Thread.currentThread().getId()) - before;
        Check.due("bytes made by a new object: " + made, made < 50_000, true);
        Check.finish();
    }

    /** Six mounts, a manifest and an entry, each as big as can be. */
    private static Maker dear() {
        StringBuilder lines = new StringBuilder();
        Maker maker = new Maker();
        for (int i = 0; i < 6; i++) {
            Maker inner = new Maker();
            inner.store("zeros", new byte[7800 + i]);
            maker.pack("in" + i, inner.bytes());
            lines.append("- \"in").append(i).append("\"\n");
        }
        maker.pack("index.txt", Maker.text(lines.toString()));
        maker.pack("META-INF/MANIFEST.MF", Maker.text("A: b\n" + (" " + "v".repeat(60) + "\n").repeat(120)));
        maker.pack("zeros", new byte[8000]);
        return maker;
    }

    private static long run(byte[] archive) {
        NestedArchives warm = new NestedArchives();
        Calls.tape(warm, archive);
        warm.open();
        long before = THREADS.getThreadAllocatedBytes(Thread.currentThread().getId());
        NestedArchives x = new NestedArchives();
        Calls.tape(x, archive);
        Check.due("open", x.open(), 9);
        for (int i = 0; i < 75; i++) {
            x.index();
            x.read(0, 8);
            x.read(0, i % 6);
            x.type('A');
            x.attribute(0);
        }
        return THREADS.getThreadAllocatedBytes(Thread.currentThread().getId()) - before;
    }
}
