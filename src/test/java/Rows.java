/** What several tests do with objects of DoublePacks. */
final class Rows {
    private Rows() {
    }

    static long bits(double d) {
        return Double.doubleToRawLongBits(d);
    }

    static DoublePacks of(long... values) {
        DoublePacks x = new DoublePacks();
        for (long v : values) {
            x.add(v);
        }
        return x;
    }

    static DoublePacks ofDoubles(double... values) {
        DoublePacks x = new DoublePacks();
        for (double v : values) {
            x.add(bits(v));
        }
        return x;
    }

    static DoublePacks full() {
        DoublePacks x = new DoublePacks();
        for (int i = 0; i < 256; i++) {
            x.add(i);
        }
        return x;
    }

    static long[] values(DoublePacks x) {
        long[] values = new long[x.count()];
        for (int i = 0; i < values.length; i++) {
            values[i] = x.value(i);
        }
        return values;
    }

    static int[] out(DoublePacks x) {
        int[] bytes = new int[x.size()];
        for (int i = 0; i < bytes.length; i++) {
            bytes[i] = x.out(i);
        }
        return bytes;
    }

    static String outBits(DoublePacks x) {
        StringBuilder all = new StringBuilder();
        for (int octet : out(x)) {
            for (int k = 7; k >= 0; k--) {
                all.append(octet >> k & 1);
            }
        }
        return all.toString();
    }

    /** An object with nothing but these bits on its TAPE: spaces are left out, the end is filled up with bits 0. */
    static DoublePacks tape(String bits) {
        DoublePacks x = new DoublePacks();
        feedBits(x, bits);
        return x;
    }

    static void feedBits(DoublePacks x, String bits) {
        StringBuilder all = new StringBuilder(bits.replace(" ", ""));
        while (all.length() % 8 != 0) {
            all.append('0');
        }
        for (int i = 0; i < all.length(); i += 8) {
            x.feed(Integer.parseInt(all.substring(i, i + 8), 2), 1);
        }
    }

    static String number(long n, int width) {
        StringBuilder told = new StringBuilder();
        for (int k = width - 1; k >= 0; k--) {
            told.append(n >>> k & 1);
        }
        return told.toString();
    }

    /** A whole tape: the start, the blocks, the end of the byte and the CHECK. */
    static String packed(int values, int size, String blocks) {
        StringBuilder all = new StringBuilder(number(values, 9) + number(size, 7) + blocks.replace(" ", ""));
        while (all.length() % 8 != 0) {
            all.append('0');
        }
        return all + check(all.toString());
    }

    static String check(String wholeBytes) {
        long c = 1;
        for (int i = 0; i < wholeBytes.length(); i += 8) {
            c = (31 * c + Integer.parseInt(wholeBytes.substring(i, i + 8), 2)) % 65521;
        }
        return number(c, 16);
    }
}
