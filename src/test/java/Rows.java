/** What several tests do with objects of DoublePacks: each has 512 calls at most, as the document tells no more. */
final class Rows {
    /** Wrong for any index or number that is not below 0 and has a bound. */
    static final int[] FAR = {Integer.MIN_VALUE, Integer.MIN_VALUE + 1, -256, -2, -1, Integer.MAX_VALUE - 1,
        Integer.MAX_VALUE};
    /** No number, endless, without the hidden bit, the greatest, 0 of both signs: doubles at all their edges. */
    static final long[] ODD_BITS = {
        0, 1, 0x000FFFFFFFFFFFFFL, 0x0010000000000000L, 0x7FEFFFFFFFFFFFFFL, 0x7FF0000000000000L, 0x7FF0000000000001L,
        0x7FF8000000000000L, 0x7FFFFFFFFFFFFFFFL, 0x8000000000000000L, 0x8000000000000001L, 0x800FFFFFFFFFFFFFL,
        0x8010000000000000L, 0xFFEFFFFFFFFFFFFFL, 0xFFF0000000000000L, 0xFFF0000000000001L, 0xFFF8000000000000L, -1
    };

    private Rows() {
    }

    static long bits(double d) {
        return Double.doubleToRawLongBits(d);
    }

    static DoublePacks of(long... values) {
        DoublePacks x = new DoublePacks();
        for (long v : values) {
            x.add(v);
        }
        return x;
    }

    static DoublePacks ofDoubles(double... values) {
        DoublePacks x = new DoublePacks();
        for (double v : values) {
            x.add(bits(v));
        }
        return x;
    }

    /** The values 0, 1, .. as bits. */
    static DoublePacks counted(int count) {
        DoublePacks x = new DoublePacks();
        for (int i = 0; i < count; i++) {
            x.add(i);
        }
        return x;
    }

    static DoublePacks full() {
        return counted(256);
    }

    /** So many values 0, read from a tape: in a few calls. */
    static DoublePacks zeros(int count) {
        DoublePacks x = new DoublePacks();
        feedBits(x, packed(count, 64, zeroBlocks(count, 64)));
        x.open();
        x.cut(0);
        return x;
    }

    static String zeroBlocks(int count, int size) {
        StringBuilder blocks = new StringBuilder();
        for (int i = 0; i < count; i++) {
            blocks.append(i % size == 0 ? "001" : "").append('0');
        }
        return blocks.toString();
    }

    /** Values, an OUT that is not theirs any more, a TAPE that is another one, and a FAULT told. */
    static DoublePacks busy() {
        DoublePacks x = ofDoubles(1.5, 2.25, -0.0, 1 / 3.0);
        x.pack(2);
        x.turn();
        x.change(3, 64);
        x.open();
        x.feed(0xABCDEF, 3);
        x.decimal(-77, 1);
        return x;
    }

    static long[] values(DoublePacks x) {
        long[] values = new long[x.count()];
        for (int i = 0; i < values.length; i++) {
            values[i] = x.value(i);
        }
        return values;
    }

    static int[] out(DoublePacks x) {
        int[] bytes = new int[x.size()];
        for (int i = 0; i < bytes.length; i++) {
            bytes[i] = x.out(i);
        }
        return bytes;
    }

    static String outBits(DoublePacks x) {
        StringBuilder all = new StringBuilder();
        for (int octet : out(x)) {
            all.append(number(octet, 8));
        }
        return all.toString();
    }

    /** An object with nothing but these bits on its TAPE: spaces are left out, the end is filled up with bits 0. */
    static DoublePacks tape(String bits) {
        DoublePacks x = new DoublePacks();
        feedBits(x, bits);
        return x;
    }

    static void feedBits(DoublePacks x, String bits) {
        StringBuilder all = new StringBuilder(bits.replace(" ", ""));
        while (all.length() % 8 != 0) {
            all.append('0');
        }
        for (int i = 0; i < all.length(); i += 64) {
            String word = all.substring(i, Math.min(i + 64, all.length()));
            x.feed(Long.parseUnsignedLong(word, 2), word.length() / 8);
        }
    }

    static String number(long n, int width) {
        StringBuilder told = new StringBuilder();
        for (int k = width - 1; k >= 0; k--) {
            told.append(n >>> k & 1);
        }
        return told.toString();
    }

    /** How a tape begins. */
    static String start(int values, int size) {
        return number(values, 9) + number(size, 7);
    }

    /** A whole tape: the start, the blocks, the end of the byte and the CHECK. */
    static String packed(int values, int size, String blocks) {
        StringBuilder all = new StringBuilder(start(values, size) + blocks.replace(" ", ""));
        while (all.length() % 8 != 0) {
            all.append('0');
        }
        return all + check(all.toString());
    }

    static String check(String wholeBytes) {
        long c = 1;
        for (int i = 0; i < wholeBytes.length(); i += 8) {
            c = (31 * c + Integer.parseInt(wholeBytes.substring(i, i + 8), 2)) % 65521;
        }
        return number(c, 16);
    }
}
