/** Promises 1 to 3: a new object, feed, end. */
public final class TapeTest {
    public static void main(String[] args) {
        newObject();
        order();
        full();
        cutting();
        Check.finish();
    }

    private static void newObject() {
        NestedArchives x = new NestedArchives();
        Check.due("new: count(-1)", x.count(-1), 0);
        Check.due("new: count(0)", x.count(0), -1);
        Check.due("new: fault()", x.fault(), 0);
        Check.due("new: place()", x.place(), -1);
        Check.due("new: octet(0)", x.octet(0), -1);
        Check.due("new: value(0)", x.value(0), -1);
        Check.due("new: end(1)", x.end(1), false);
        Check.due("new: end(0)", x.end(0), true);
        Check.throwsIndex("new: number(0)", () -> x.number(0));
        Check.throwsState("new: index()", x::index);
        Check.due("new: fault() of what is no fault", x.fault(), 0);
    }

    private static void order() {
        Maker maker = new Maker();
        maker.store("a", new byte[] {1, 2, 3, 4, 5, 6, 7, 8, 9, 10, -1, -2, -128, 127, 0, 20, 21, 22, 23, 24, 25});
        NestedArchives x = Calls.opened(maker);
        Check.due("read", x.read(0, 0), 21);
        for (int i = 0; i < 21; i++) {
            Check.due("octet " + i, x.octet(i), maker.items.get(0).packed[i] & 255);
        }
    }

    private static void full() {
        NestedArchives x = new NestedArchives();
        for (int i = 0; i < 400; i++) {
            Check.due("feed " + i, x.feed(i, 0, -1, i, 5), true);
        }
        Check.due("feed beyond 8000", x.feed(1, 2, 3, 4, 5), false);
        Check.due("end(8001)", x.end(8001), false);
        Check.due("end(8000)", x.end(8000), true);
        Check.due("end(7981)", x.end(7981), true);
        Check.due("feed to 8001", x.feed(1, 2, 3, 4, 5), false);
        Check.due("end(7982) after a feed that failed", x.end(7982), false);
        Check.due("end(7980)", x.end(7980), true);
        Check.due("feed to 8000", x.feed(1, 2, 3, 4, 5), true);
        Check.due("end(8000) again", x.end(8000), true);
    }

    private static void cutting() {
        NestedArchives x = new NestedArchives();
        x.feed(1, 2, 3, 4, 5);
        Check.due("end(-1)", x.end(-1), false);
        Check.due("end(min)", x.end(Integer.MIN_VALUE), false);
        Check.due("end(21)", x.end(21), false);
        Check.due("end(max)", x.end(Integer.MAX_VALUE), false);
        Check.due("end(20)", x.end(20), true);
        Check.due("end(3)", x.end(3), true);
        Check.due("end(4)", x.end(4), false);
        byte[] empty = new Maker().bytes();
        NestedArchives y = new NestedArchives();
        y.feed(7, 7, 7, 7, 7);
        y.end(0);
        Calls.tape(y, empty);
        Check.due("open() of what is behind a cut", y.open(), 0);
    }
}
