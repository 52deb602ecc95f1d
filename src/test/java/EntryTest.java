/** Promises 7 to 9: count, entry, letter. */
public final class EntryTest {
    private static final int[] OUTSIDE = {-1, -2, Integer.MIN_VALUE, Integer.MAX_VALUE};

    public static void main(String[] args) {
        Maker inner = new Maker();
        inner.store("i", "inner");
        inner.store("META-INF/x", "");
        Maker maker = new Maker();
        Maker.Item strange = maker.store("strange!", "abc");
        strange.size = 0xFFFFFFFEL;
        strange.sum = 0x89ABCDEFL;
        strange.method = 0xFEDC;
        strange.flags = 0xABCD;
        maker.store("~", inner.bytes());
        NestedArchives x = Calls.opened(maker);
        counts(x);
        entries(x);
        letters(x);
        Check.due("no fault was noted", x.fault(), 0);
        Check.finish();
    }

    private static void counts(NestedArchives x) {
        Check.due("count(-1)", x.count(-1), 1);
        Check.due("count(0)", x.count(0), 2);
        Check.due("count(1) without a mount", x.count(1), -1);
        Check.due("mount(1)", x.mount(1), 1);
        Check.due("count(-1) with a mount", x.count(-1), 2);
        Check.due("count(1)", x.count(1), 2);
        Check.due("count(2)", x.count(2), -1);
        Check.due("count(-2)", x.count(-2), -1);
        Check.due("count(min)", x.count(Integer.MIN_VALUE), -1);
        Check.due("count(max)", x.count(Integer.MAX_VALUE), -1);
    }

    private static void entries(NestedArchives x) {
        long[] due = {0xFFFFFFFEL, 3, 0xFEDC, 0x89ABCDEFL, 0xABCD, 8};
        for (int what = 0; what < 6; what++) {
            Check.due("entry(0, 0, " + what + ")", x.entry(0, 0, what), due[what]);
        }
        Check.due("a mount's entry: size", x.entry(1, 0, 0), 5);
        Check.due("a mount's entry: sum", x.entry(1, 0, 3), Maker.sum(Maker.text("inner")));
        Check.due("a mount's entry: name", x.entry(1, 1, 5), 10);
        for (int out : OUTSIDE) {
            Check.throwsIndex("entry of archive " + out, () -> x.entry(out, 0, 0));
            Check.throwsIndex("entry number " + out, () -> x.entry(0, out, 0));
            Check.throwsIndex("the first exception of two", () -> x.entry(0, out, 6));
            Check.throwsArgument("what = " + out, () -> x.entry(0, 0, out));
        }
        Check.throwsIndex("entry(2, 0, 0)", () -> x.entry(2, 0, 0));
        Check.throwsIndex("entry(0, 2, 0)", () -> x.entry(0, 2, 0));
        Check.throwsArgument("what = 6", () -> x.entry(0, 0, 6));
    }

    private static void letters(NestedArchives x) {
        Check.due("letter(0, 0, 0)", x.letter(0, 0, 0), 's');
        Check.due("letter(0, 0, 7)", x.letter(0, 0, 7), '!');
        Check.due("letter(0, 0, 8)", x.letter(0, 0, 8), -1);
        Check.due("letter(0, 1, 0)", x.letter(0, 1, 0), '~');
        Check.due("letter(0, 1, 1)", x.letter(0, 1, 1), -1);
        Check.due("letter(1, 1, 9)", x.letter(1, 1, 9), 'x');
        for (int out : OUTSIDE) {
            Check.due("letter " + out, x.letter(0, 0, out), -1);
            Check.throwsIndex("letter of archive " + out, () -> x.letter(out, 0, 0));
            Check.throwsIndex("letter of entry " + out, () -> x.letter(1, out, 0));
        }
        Check.throwsIndex("letter(1, 2, 0)", () -> x.letter(1, 2, 0));
        Check.throwsIndex("letter(2, 0, 0)", () -> x.letter(2, 0, 0));
    }
}
