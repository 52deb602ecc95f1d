/** Counts and prints the answers that aren't due; every test ends with finish(). */
final class Check {
    interface Call {
        long run();
    }

    private static final int MOST_TOLD = 50;
    private static int wrong = 0;

    private Check() {
    }

    static void due(String what, long got, long want) {
        if (got != want) {
            tell(what + " answered " + got + ", due is " + want);
        }
    }

    static void due(String what, boolean got, boolean want) {
        due(what, got ? 1 : 0, want ? 1 : 0);
    }

    static void due(String what, String got, String want) {
        if (!got.equals(want)) {
            tell(what + " answered " + got + ", due is " + want);
        }
    }

    private static void tell(String line) {
        wrong++;
        if (wrong <= MOST_TOLD) {
            System.out.println(line);
        }
    }

    /** The call's answer as text; of what is thrown the very class counts, since the machine throws classes below it. */
    static String answer(Call call) {
        try {
            return Long.toString(call.run());
        } catch (RuntimeException e) {
            return e.getClass().getSimpleName();
        }
    }

    static void throwsIndex(String what, Call call) {
        due(what, answer(call), "IndexOutOfBoundsException");
    }

    static void throwsArgument(String what, Call call) {
        due(what, answer(call), "IllegalArgumentException");
    }

    static void throwsState(String what, Call call) {
        due(what, answer(call), "IllegalStateException");
    }

    /** The call throws for this fault, at this place. */
    static void fault(String what, NestedArchives x, Call call, int fault, int place) {
        throwsArgument(what, call);
        due(what + ": fault()", x.fault(), fault);
        due(what + ": place()", x.place(), place);
    }

    static void finish() {
        if (wrong != 0) {
            System.out.println(wrong + " answers are not as due");
            System.exit(1);
        }
    }
}
