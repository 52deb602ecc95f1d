/** All that an object tells, as one text. It opens the tape and uses the name, so it is the last that is done with it. */
final class Look {
    private Look() {
    }

    /** The typed name is looked at by typing the rest of an entry's name behind it. */
    static String at(NestedArchives x, String restOfName) {
        StringBuilder text = new StringBuilder();
        archives(x, text);
        text.append(" read ").append(Calls.octets(x)).append(" value ").append(Calls.values(x));
        for (int m = 0; m < x.count(-1); m++) {
            int archive = m;
            text.append(" entry ").append(Check.answer(() -> x.read(archive, 0))).append(Calls.octets(x));
        }
        text.append(" tape ").append(Check.answer(x::open));
        archives(x, text);
        text.append(" read ").append(Check.answer(() -> x.read(0, 0))).append(Calls.octets(x));
        for (int i = 0; i < restOfName.length(); i++) {
            text.append(" type ").append(x.type(restOfName.charAt(i)));
        }
        return text.append(" number ").append(Check.answer(() -> x.number(0))).toString();
    }

    private static void archives(NestedArchives x, StringBuilder text) {
        text.append(" archives ").append(x.count(-1));
        for (int m = 0; m < x.count(-1); m++) {
            text.append(" archive ").append(x.count(m));
            // An archive's entries are told by its bytes alone, so the first and the last one tell all of them.
            for (int k = 0; k < x.count(m); k += Math.max(1, x.count(m) - 1)) {
                for (int what = 0; what < 6; what++) {
                    text.append(' ').append(x.entry(m, k, what));
                }
                text.append(' ').append((char) x.letter(m, k, 0)).append(x.letter(m, k, 40));
            }
        }
    }
}
