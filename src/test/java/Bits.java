import java.io.ByteArrayOutputStream;

/** Writes packed rows by hand, right ones and wrong ones. */
final class Bits {
    private static final int[] ORDER = {16, 17, 18, 0, 8, 7, 9, 6, 10, 5, 11, 4, 12, 3, 13, 2, 14, 1, 15};

    private final ByteArrayOutputStream out = new ByteArrayOutputStream();
    private int held = 0;
    private int count = 0;

    /** A number of n bits, its lowest first. */
    Bits number(int n, int value) {
        for (int i = 0; i < n; i++) {
            held |= (value >> i & 1) << count;
            count++;
            if (count == 8) {
                out.write(held);
                held = 0;
                count = 0;
            }
        }
        return this;
    }

    /** A code of n bits, its highest first. */
    Bits code(int n, int value) {
        for (int i = n - 1; i >= 0; i--) {
            number(1, value >> i & 1);
        }
        return this;
    }

    Bits block(boolean last, int kind) {
        return number(1, last ? 1 : 0).number(2, kind);
    }

    /** The rest of the byte, with ones, since nobody may look at it. */
    Bits rest() {
        while (count != 0) {
            number(1, 1);
        }
        return this;
    }

    Bits plain(boolean last, byte[] content) {
        block(last, 0).rest().number(16, content.length).number(16, ~content.length);
        for (byte b : content) {
            number(8, b);
        }
        return this;
    }

    /** A sign of the codes of blocks of kind 1. */
    Bits fixed(int sign) {
        if (sign < 144) {
            return code(8, 0x30 + sign);
        }
        if (sign < 256) {
            return code(9, 0x190 + sign - 144);
        }
        return sign < 280 ? code(7, sign - 256) : code(8, 0xC0 + sign - 280);
    }

    Bits fixedWay(int way) {
        return code(5, way);
    }

    /** The beginning of a block of kind 2 up to the lengths of its codes of lengths, by what these stand for. */
    Bits counts(boolean last, int firsts, int ways, int[] lengths) {
        block(last, 2).number(5, firsts - 257).number(5, ways - 1).number(4, 15);
        for (int sign : ORDER) {
            number(3, lengths[sign]);
        }
        return this;
    }

    /** A code among codes of these lengths. */
    Bits among(int[] lengths, int sign) {
        int code = 0;
        for (int length = 1; length <= 15; length++) {
            for (int i = 0; i < lengths.length; i++) {
                if (lengths[i] == length) {
                    if (i == sign) {
                        return code(length, code);
                    }
                    code++;
                }
            }
            code <<= 1;
        }
        throw new IllegalArgumentException("no code of " + sign);
    }

    byte[] bytes() {
        return rest().out.toByteArray();
    }
}
