/** Promises 12 to 17: pack, blocks, way, bits, size, out. */
public final class PackTest {
    private static final Check CHECK = new Check();
    private static final long ONE = Rows.bits(1.0);
    private static final int[] WRONG = {-1, Integer.MAX_VALUE, Integer.MIN_VALUE};

    public static void main(String[] args) {
        promise12PackOfNothing();
        promise12EachWay();
        promise12Window();
        promise12LeastWayAndStride();
        promise12Limits();
        promise13Blocks();
        promise14Way();
        promise15Bits();
        promise16Size();
        promise17Out();
        outStaysAsItWas();
        CHECK.end();
    }

    private static void packed(String name, DoublePacks x, int size, String blocks) {
        String due = Rows.packed(x.count(), size, blocks);
        CHECK.same(name + ": pack(" + size + ")", x.pack(size), due.length() / 8);
        String got = Rows.outBits(x);
        CHECK.same(name + ": OUT " + got + " is " + due, got.equals(due) ? 1 : 0, 1);
    }

    private static void promise12PackOfNothing() {
        DoublePacks x = new DoublePacks();
        packed("nothing", x, 64, "");
        CHECK.same("nothing: bytes", x.size(), 4);
        // 31 * 1 + 0; 31 * 31 + 64.
        CHECK.same("nothing: CHECK ahead", x.out(2), 1025 >> 8);
        CHECK.same("nothing: CHECK behind", x.out(3), 1025 & 255);
    }

    private static void promise12EachWay() {
        packed("0 plain", Rows.of(0xC123456789ABCDEFL), 1, "000" + Rows.number(0xC123456789ABCDEFL, 64));
        packed("1 last", Rows.of(0xFF0L, 0xFF0L), 2, "001 11 110100 000111 11111111 0");
        packed("6 decimal", Rows.ofDoubles(1.5, 1.25, 1.25, -0.01), 4,
                "110 0010 001001 100101100 000110001 000000000 011111011");
        packed("6 decimal of width 0", Rows.of(0, 0), 1, "001 0 001 0");
        packed("7 parts", Rows.of(0x8011L << 48 | 1L << 47, 0x8012L << 48, 0x7FF5L << 48), 3,
                "111 100000000001 0 1 011111111111 101111 00011 00100 01010");
        packed("7 parts, all fractions 0", Rows.of(ONE ^ 1L << 63, Long.MIN_VALUE), 2,
                "111 101111111111 1 100000000000 110100");
    }

    private static void promise12Window() {
        // A window of 16 bits; the next rest is of 4 bits within: 16 <= 12 + 4, so that like ones take the window.
        DoublePacks like = Rows.of(0x8001L << 30, 0x8001L << 30 ^ 0x9L << 32);
        packed("window of like bits", like, 2,
                "001 11 010010 001111 1000000000000001 10 0000000000100100");
        // Of 3 bits within: 12 + 3 are fewer, so that it is a window of its own.
        DoublePacks fewer = Rows.of(0x8001L << 30, 0x8001L << 30 ^ 0x5L << 32);
        packed("window of fewer bits", fewer, 2, "001 11 010010 001111 1000000000000001 11 011101 000010 101");
        // One bit ahead of the window, one behind it.
        DoublePacks ahead = Rows.of(0x81L << 30, 0x81L << 30 ^ 0x181L << 30);
        CHECK.same("a rest ahead of the window", bitsBy(ahead, 1), 3 + 14 + 8 + 14 + 9);
        DoublePacks behind = Rows.of(0x81L << 30, 0x81L << 30 ^ 0x103L << 29);
        CHECK.same("a rest behind the window", bitsBy(behind, 1), 3 + 14 + 8 + 14 + 9);
        // Each block begins without a window.
        DoublePacks twice = Rows.of(0x81L << 30, 0x80L << 30);
        twice.pack(1);
        CHECK.same("no window as a block begins", twice.bits(1, 1), 3 + 14 + 1);
        twice.pack(2);
        CHECK.same("a window within a block", twice.bits(0, 1), 3 + 14 + 8 + 2 + 8);
        CHECK.same("a rest of 64 bits", bitsBy(Rows.of(0x8000000000000001L), 1), 3 + 14 + 64);
    }

    private static int bitsBy(DoublePacks x, int way) {
        x.pack(64);
        return x.bits(0, way);
    }

    private static void promise12LeastWayAndStride() {
        // 0 is foretold by all kinds: 4 bits by 1, 3, 4 and 5.
        DoublePacks zero = Rows.of(0);
        zero.pack(1);
        CHECK.same("of like ways the least", zero.way(0), 1);
        CHECK.same("bits by 3, 4 and 5 are like", zero.bits(0, 3) + zero.bits(0, 4) + zero.bits(0, 5), 12);
        // The last value is the one before by 2 and by 4, and no table knows it: s is 2, told as 1.
        long again = 0x7123456789ABCDEFL;
        DoublePacks pairs = Rows.of(again, 0x0FEDCBA987654321L, again, 0x2FEDCBA987654321L, again);
        pairs.pack(1);
        CHECK.same("the way of the last block", pairs.way(4), 2);
        CHECK.same("its bits", pairs.bits(4, 2), 7);
        String bits = Rows.outBits(pairs);
        int start = 16;
        for (int b = 0; b < 4; b++) {
            start += pairs.bits(b, pairs.way(b));
        }
        CHECK.same("s less 1 is told", Integer.parseInt(bits.substring(start, start + 7), 2), 0b0100010);
    }

    private static void promise12Limits() {
        DoublePacks x = Rows.of(1, 2, 3);
        x.pack(2);
        for (int size : new int[] {0, 65, -1, 128, Integer.MAX_VALUE, Integer.MIN_VALUE}) {
            CHECK.badArgument("pack(" + size + ")", () -> x.pack(size));
        }
        CHECK.same("a refused pack() changes nothing", x.blocks(), 2);
        DoublePacks full = new DoublePacks();
        long bits = 1;
        for (int i = 0; i < 256; i++) {
            bits = bits * 6364136223846793005L + 1442695040888963407L;
            full.add(bits);
        }
        // Hardly anything is foretold of such values: some 67 bits each, one a block.
        int size = full.pack(1);
        CHECK.same("256 wild values fit", size > 2100 && size <= 2148 ? 1 : 0, 1);
        CHECK.same("256 values: 9 bits", full.out(0), 128);
        CHECK.same("256 values: 7 bits", full.out(1), 1);
        CHECK.same("256 wild values are taped", full.turn(), size);
        CHECK.same("and open", full.open(), 0);
        CHECK.same("to the last", full.value(255), bits);
    }

    private static void promise13Blocks() {
        DoublePacks x = new DoublePacks();
        CHECK.same("blocks() before pack()", x.blocks(), 0);
        x.pack(1);
        CHECK.same("blocks() of no values", x.blocks(), 0);
        for (int i = 0; i < 130; i++) {
            x.add(i);
        }
        CHECK.same("blocks() stay until pack()", x.blocks(), 0);
        int[] sizes = {64, 1, 2, 3, 10, 13, 63};
        int[] due = {3, 130, 65, 44, 13, 10, 3};
        for (int k = 0; k < sizes.length; k++) {
            x.pack(sizes[k]);
            CHECK.same("blocks() by " + sizes[k], x.blocks(), due[k]);
        }
        DoublePacks full = Rows.full();
        full.pack(1);
        CHECK.same("blocks() of 256 by 1", full.blocks(), 256);
        full.pack(64);
        CHECK.same("blocks() of 256 by 64", full.blocks(), 4);
    }

    private static void promise14Way() {
        DoublePacks x = Rows.of(0xC123456789ABCDEFL, 0xC123456789ABCDEFL, Rows.bits(0x1p300));
        x.pack(1);
        CHECK.same("way(0)", x.way(0), 0);
        CHECK.same("way(1)", x.way(1), 1);
        CHECK.same("way(2)", x.way(2), 7);
        CHECK.noIndex("way(3)", () -> x.way(3));
        for (int b : WRONG) {
            CHECK.noIndex("way(" + b + ")", () -> x.way(b));
        }
        x.pack(3);
        CHECK.noIndex("way(1) of one block", () -> x.way(1));
    }

    private static void promise15Bits() {
        DoublePacks x = Rows.ofDoubles(1.5, 1.5, -0.0, 2.5);
        x.pack(2);
        CHECK.same("bits(0, 0)", x.bits(0, 0), 131);
        CHECK.same("bits(0, 1)", x.bits(0, 1), 3 + 14 + 11 + 1);
        CHECK.same("bits(0, 2)", x.bits(0, 2), 3 + 3 + 14 + 11 + 1);
        CHECK.same("bits(0, 6)", x.bits(0, 6), 3 + 10 + 2 * 5);
        CHECK.same("bits(0, 7)", x.bits(0, 7), 3 + 12 + 1 + 6 + 2);
        CHECK.same("bits(1, 6): -0 is not DECIMAL", x.bits(1, 6), DoublePacks.NONE);
        CHECK.same("bits(1, 7)", x.bits(1, 7), 3 + 12 + 13 + 6 + 2 * 2);
        CHECK.noIndex("bits(2, 0)", () -> x.bits(2, 0));
        CHECK.noIndex("bits(2, 8): the index is named first", () -> x.bits(2, 8));
        CHECK.badArgument("bits(0, 8)", () -> x.bits(0, 8));
        for (int wrong : WRONG) {
            CHECK.noIndex("bits(" + wrong + ", 0)", () -> x.bits(wrong, 0));
            CHECK.badArgument("bits(1, " + wrong + ")", () -> x.bits(1, wrong));
        }
        long most = (1L << 52) - 1;
        DoublePacks wide = Rows.ofDoubles(most, -most);
        wide.pack(2);
        CHECK.same("w is at most 54", wide.bits(0, 6), 13 + 2 * 54);
        // 0.5 asks for e 1, 0.25 for e 2; 10^13 + 0.5 has no e above 2, and 1/8 none below 3.
        DoublePacks shared = Rows.ofDoubles(0.5, 0.25);
        CHECK.same("e is one for all", bitsBy(shared, 6), 13 + 2 * 7);
        DoublePacks none = Rows.ofDoubles(10000000000000.5, 0.125);
        CHECK.same("no e for all", bitsBy(none, 6), DoublePacks.NONE);
    }

    private static void promise16Size() {
        DoublePacks x = new DoublePacks();
        CHECK.same("size() before pack()", x.size(), 0);
        x.add(0);
        CHECK.same("size() stays until pack()", x.size(), 0);
        CHECK.same("size() is what pack() told", x.pack(1), 5);
        CHECK.same("size()", x.size(), 5);
        x.add(0xC123456789ABCDEFL);
        CHECK.same("size() stays", x.size(), 5);
    }

    private static void promise17Out() {
        DoublePacks x = Rows.of(0);
        CHECK.noIndex("out(0) before pack()", () -> x.out(0));
        x.pack(1);
        // 000000001 0000001 001 0 0000: 31 + 0; 31 * 31 + 129; 31 * 1090 + 32.
        int[] due = {0, 129, 32, 33822 >> 8, 33822 & 255};
        for (int i = 0; i < due.length; i++) {
            CHECK.same("out(" + i + ")", x.out(i), due[i]);
        }
        CHECK.noIndex("out(5)", () -> x.out(5));
        for (int i : WRONG) {
            CHECK.noIndex("out(" + i + ")", () -> x.out(i));
        }
    }

    private static void outStaysAsItWas() {
        DoublePacks x = Rows.ofDoubles(1.5, 2.5, Math.PI, -0.0);
        x.pack(1);
        String due = Rows.outBits(x);
        int[] ways = {x.way(0), x.way(1), x.way(2), x.way(3)};
        int decimal = x.bits(1, 6);
        x.clear();
        x.decimal(1, 1);
        x.feed(1, 4);
        x.open();
        x.turn();
        x.change(0, 255);
        x.cut(1);
        CHECK.same("OUT stays", Rows.outBits(x).equals(due) ? 1 : 0, 1);
        CHECK.same("blocks() stay", x.blocks(), 4);
        for (int b = 0; b < 4; b++) {
            CHECK.same("way(" + b + ") stays", x.way(b), ways[b]);
        }
        CHECK.same("bits() are of OUT, not of THE ROW", x.bits(1, 6), decimal);
        CHECK.same("bits() of what is no decimal", x.bits(3, 6), DoublePacks.NONE);
        CHECK.same("a shorter OUT takes its place", x.pack(64), Rows.packed(1, 64, "110 0001 000010 10").length() / 8);
    }
}
