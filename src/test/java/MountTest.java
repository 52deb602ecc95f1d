/** Promise 15: mount. */
public final class MountTest {
    public static void main(String[] args) {
        Maker inner = new Maker();
        inner.store("i", "inner");
        Maker deep = new Maker();
        deep.pack("in", inner.bytes());
        deep.store("d", "deep");
        Maker bad = new Maker();
        bad.store("a", "");
        bad.store("b", "");
        bad.items.get(1).localMark++;
        Maker disk = new Maker();
        disk.diskA = 1;
        Maker rest = new Maker();
        rest.store("a", "");
        rest.directoryRest = new byte[1];

        Maker maker = new Maker();
        maker.store("plain", "no archive");
        maker.store("in", inner.bytes());
        maker.pack("deep", deep.bytes());
        maker.pack("bad", bad.bytes());
        maker.store("disk", disk.bytes());
        maker.store("rest", rest.bytes());
        maker.store("sum", inner.bytes()).sum ^= 1;
        maker.store("empty", new Maker().bytes());
        maker.store("none", "");
        maker.store("method", inner.bytes()).method = 12;
        NestedArchives x = new NestedArchives();
        Check.throwsIndex("mount without an archive", () -> x.mount(0));
        Calls.open(x, maker);
        faults(x);
        mounts(x);
        six(x);
        Check.finish();
    }

    private static void faults(NestedArchives x) {
        for (int out : new int[] {-1, 10, Integer.MIN_VALUE, Integer.MAX_VALUE}) {
            Check.throwsIndex("mount(" + out + ")", () -> x.mount(out));
        }
        Check.due("no fault yet", x.fault(), 0);
        Check.fault("of no archive", x, () -> x.mount(0), 1, -1);
        Check.fault("of one with a wrong local header", x, () -> x.mount(3), 5, 1);
        Check.fault("of one with a disk", x, () -> x.mount(4), 2, -1);
        Check.fault("of one with a rest", x, () -> x.mount(5), 3, 1);
        Check.fault("of one that can't be read", x, () -> x.mount(6), 9, 6);
        Check.fault("of no bytes", x, () -> x.mount(8), 1, -1);
        Check.fault("of another method", x, () -> x.mount(9), 6, 9);
        Check.due("what throws mounts nothing", x.count(-1), 1);
    }

    private static void mounts(NestedArchives x) {
        Check.due("the first", x.mount(2), 1);
        Check.due("the second", x.mount(1), 2);
        Check.due("the same again", x.mount(2), 3);
        Check.due("an empty one", x.mount(7), 4);
        Check.due("count(-1)", x.count(-1), 5);
        Check.due("count(1)", x.count(1), 2);
        Check.due("count(4)", x.count(4), 0);
        Check.due("what is in the first", Calls.find(x, 1, "d"), 101);
        Check.due("what is in the second", Calls.find(x, 1, "i"), 200);
        Check.due("entries of the outer archive alone are mounted", x.mount(1), 5);
        Check.due("not of a mount", x.count(5), 1);
        Check.due("a mount is read", x.read(1, 1), 4);
        Check.due("its bytes", Calls.octets(x), "deep");
        Check.due("the first is as it was", x.count(1), 2);
    }

    private static void six(NestedArchives x) {
        Check.due("the sixth", x.mount(2), 6);
        int before = x.fault();
        Check.throwsState("the seventh", () -> x.mount(1));
        Check.due("that is no fault", x.fault(), before);
        Check.throwsIndex("the seventh of no entry", () -> x.mount(10));
        Check.fault("the seventh of no archive", x, () -> x.mount(0), 1, -1);
        Check.fault("the seventh of what can't be read", x, () -> x.mount(6), 9, 6);
        Check.due("count(-1)", x.count(-1), 7);
        Check.due("the sixth is as it was", Calls.find(x, 6, "d"), 601);
        Check.due("the fifth too", Calls.find(x, 5, "i"), 500);
    }
}
