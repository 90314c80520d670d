/** Promises 12 to 17: pack, blocks, way, bits, size, out; PACKED. */
public final class PackTest {
    private static final Check CHECK = new Check();
    private static final long ONE = Rows.bits(1.0);
    private static final long BYTE = 1L << 56;
    private static final int NONE = DoublePacks.NONE;

    public static void main(String[] args) {
        promise12Size();
        promise12PackAgain();
        howManyValues();
        lastBlockIsWhatIsLeft();
        bitsUpToTheEndOfAByte();
        checkAtItsEdges();
        theMostBytes();
        way0();
        restZero();
        newWindowAtItsEdges();
        windowThatJustHolds();
        windowOrNewOne();
        windowFromThenOn();
        windowNoneAsABlockBegins();
        way2Strides();
        way6Numbers();
        way6Width();
        way6Power();
        way6Chosen();
        way7Heads();
        way7Tail();
        tablesGoAlong();
        fewestBits();
        ofLikeOnesTheLeast();
        ofLikeStridesTheLeast();
        promise13Blocks();
        promise14Way();
        promise15Bits();
        promise15NotPackedSo();
        promise15Refused();
        promise16Size();
        promise17Out();
        outStaysAsItWas();
        CHECK.end();
    }

    private static void packed(String name, DoublePacks x, int size, String blocks) {
        String due = Rows.packed(x.count(), size, blocks);
        CHECK.same(name + ": pack(" + size + ")", x.pack(size), due.length() / 8);
        CHECK.same(name + ": OUT", Rows.outBits(x), due);
    }

    private static int bitsBy(int way, long... values) {
        DoublePacks x = Rows.of(values);
        x.pack(64);
        return x.bits(0, way);
    }

    private static void promise12Size() {
        CHECK.says("Promise 12: in blocks of a SIZE (1 .. 64). IllegalArgumentException");
        CHECK.same("pack(1) of none", new DoublePacks().pack(1), 4);
        CHECK.same("pack(64) of none", new DoublePacks().pack(64), 4);
        DoublePacks x = Rows.zeros(65);
        int[] sizes = {1, 2, 63, 64};
        int[] blocks = {65, 33, 2, 2};
        for (int k = 0; k < sizes.length; k++) {
            x.pack(sizes[k]);
            CHECK.same("pack(" + sizes[k] + "): SIZE", x.out(1) & 127, sizes[k]);
            CHECK.same("pack(" + sizes[k] + "): blocks", x.blocks(), blocks[k]);
        }
        for (int size : new int[] {0, 65, 66, 127, 128, 129, 256}) {
            CHECK.refused("pack(" + size + ")", IllegalArgumentException.class, Rows::busy, y -> y.pack(size));
            CHECK.badArgument("pack(" + size + ") of none", () -> new DoublePacks().pack(size));
        }
        for (int size : Rows.FAR) {
            CHECK.badArgument("pack(" + size + ")", () -> Rows.busy().pack(size));
        }
    }

    private static void promise12PackAgain() {
        CHECK.says("Promise 12: THE ROW is PACKED, into OUT: how many bytes");
        DoublePacks x = Rows.of(0xC123456789ABCDEFL, 0xC99999999ABCDEF1L, 0xFFFFFFFFFFFFFFFDL);
        x.pack(1);
        x.clear();
        packed("a shorter one in place of a longer one", x, 64, "");
        x.add(0);
        packed("a longer one in place of a shorter one", x, 1, "001 0");
        CHECK.same("blocks()", x.blocks(), 1);
        packed("the same again", x, 1, "001 0");
        CHECK.same("THE ROW stays", x.count(), 1);
        CHECK.same("THE TAPE stays", x.cut(0), 0);
    }

    private static void howManyValues() {
        CHECK.says("9 bits, how many values; 7 bits, the SIZE of blocks (1 .. 64)");
        packed("no values by 1", new DoublePacks(), 1, "");
        packed("no values by 64", new DoublePacks(), 64, "");
        for (int count : new int[] {1, 2, 127, 128, 255, 256}) {
            for (int size : new int[] {1, 63, 64}) {
                packed(count + " values", Rows.zeros(count), size, shortestZeros(count, size));
            }
        }
    }

    /** By 1 a block of values 0 has 3 bits and one for each, by 6 it has 13, with w 0. */
    private static String shortestZeros(int count, int size) {
        StringBuilder blocks = new StringBuilder();
        for (int left = count; left > 0; left -= size) {
            int own = Math.min(left, size);
            blocks.append(own <= 10 ? "001" + "0".repeat(own) : "1100000000000");
        }
        return blocks.toString();
    }

    private static void lastBlockIsWhatIsLeft() {
        CHECK.says("the blocks (so many values each, the last one what is left)");
        for (int size : new int[] {1, 2, 5, 63, 64}) {
            for (int count : new int[] {size - 1, size, size + 1, 2 * size - 1, 2 * size, 2 * size + 1}) {
                DoublePacks x = Rows.counted(count);
                x.pack(size);
                CHECK.same(count + " by " + size, x.blocks(), (count + size - 1) / size);
                int left = count;
                for (int b = 0; b < x.blocks(); b++) {
                    CHECK.same(count + " by " + size + ", block " + b, x.bits(b, 0), 3 + 64 * Math.min(left, size));
                    left -= size;
                }
            }
        }
    }

    private static void bitsUpToTheEndOfAByte() {
        CHECK.says("bits 0 up to the end of a byte");
        for (int count = 1; count <= 10; count++) {
            DoublePacks x = Rows.of(-1, -3, -5, -7);
            x.pack(1);
            x.clear();
            for (int i = 0; i < count; i++) {
                x.add(0);
            }
            // 3 bits and one for each value: so from 4 to 13 bits, by 0 to 7 short of a byte.
            packed(count + " values 0", x, 64, Rows.zeroBlocks(count, 64));
            CHECK.same("bytes of " + count, x.size(), 4 + (count + 10) / 8);
        }
    }

    private static void checkAtItsEdges() {
        CHECK.says("the CHECK, 16 bits: c is 1 at first, and for each byte before becomes (31 c + byte) % 65521");
        DoublePacks none = new DoublePacks();
        none.pack(64);
        // 31 * 1 + 0; 31 * 31 + 64.
        CHECK.same("of two bytes", none.out(2) << 8 | none.out(3), 1025);
        int[] due = {65519, 65520, 0, 1};
        long[] values = {0xC123456779F5646FL, 0xC12345679747AE03L, 0xC12345679965032DL, 0xC1234567746DAF6BL};
        for (int k = 0; k < due.length; k++) {
            DoublePacks x = Rows.of(values[k]);
            int size = x.pack(1);
            CHECK.same("CHECK " + due[k], x.out(size - 2) << 8 | x.out(size - 1), due[k]);
            CHECK.same("CHECK " + due[k] + " as told", Rows.outBits(x).substring(8 * size - 16),
                    Rows.check(Rows.outBits(x).substring(0, 8 * size - 16)));
        }
    }

    private static void theMostBytes() {
        CHECK.says("up to 256 VALUES; PACKED are bits (the most of them)");
        DoublePacks x = new DoublePacks();
        long bits = 6;
        for (int i = 0; i < 256; i++) {
            bits = bits * 6364136223846793005L + 1442695040888963407L;
            x.add(bits | 1);
        }
        // Hardly anything is foretold of such values: each block is by 0, 67 bits.
        CHECK.same("pack(1)", x.pack(1), 2 + 256 * 67 / 8 + 2);
        CHECK.same("blocks()", x.blocks(), 256);
        CHECK.same("way(255)", x.way(255), 0);
        CHECK.same("size()", x.size(), 2148);
        CHECK.same("out(0)", x.out(0), 128);
        CHECK.same("out(1)", x.out(1), 1);
        CHECK.same("out(2145), of the last value", x.out(2145), (int) bits & 255 | 1);
        CHECK.noIndex("out(2148)", () -> x.out(2148));
        CHECK.same("turn()", x.turn(), 2148);
        x.clear();
        CHECK.same("open()", x.open(), 0);
        CHECK.same("value(255)", x.value(255), bits | 1);
    }

    private static void way0() {
        CHECK.says("0 each value, 64 bits");
        long wild = 0xC123456789ABCDEFL;
        packed("one", Rows.of(wild), 1, "000" + Rows.number(wild, 64));
        packed("two", Rows.of(wild, 0x5FEDCBA987654321L), 2,
                "000" + Rows.number(wild, 64) + Rows.number(0x5FEDCBA987654321L, 64));
    }

    private static void restZero() {
        CHECK.says("A REST 0 is a bit 0. Another one is a bit 1, and then ..");
        packed("rests 0", Rows.of(0, 0, 0), 64, "001 000");
        packed("a REST of one bit", Rows.of(0, 1L << 40, 1L << 40), 64, "001 0 11 010111 000000 1 0");
        CHECK.same("rest 0 by 1", bitsBy(1, 0), 3 + 1);
        CHECK.same("rest 1 by 1", bitsBy(1, 1), 3 + 14 + 1);
        CHECK.same("each value's REST by xor", bitsBy(1, 0x0F00, 0x0FF0), 3 + 14 + 4 + 14 + 4);
    }

    private static void newWindowAtItsEdges() {
        CHECK.says("a bit 1, 6 bits, how many zeros it has ahead, 6 bits, how many bits are left .., less 1");
        packed("63 zeros ahead, one bit", Rows.of(1), 1, "001 11 111111 000000 1");
        packed("62 zeros ahead, one bit", Rows.of(2), 1, "001 11 111110 000000 1");
        packed("62 zeros ahead, two bits", Rows.of(3), 1, "001 11 111110 000001 11");
        CHECK.same("no zeros ahead, one bit", bitsBy(1, Long.MIN_VALUE), 3 + 14 + 1);
        CHECK.same("no zeros ahead, 64 bits", bitsBy(1, Long.MIN_VALUE | 1), 3 + 14 + 64);
        CHECK.same("one zero ahead, 63 bits", bitsBy(1, 1L << 62 | 1), 3 + 14 + 63);
        CHECK.same("one zero behind, 63 bits", bitsBy(1, Long.MIN_VALUE | 2), 3 + 14 + 63);
        // With so many like values behind the first one LAST is the shortest, though that one has no zeros at all.
        long[] once = new long[64];
        java.util.Arrays.fill(once, 0xC123456789ABCDEFL);
        packed("no zeros ahead, 64 bits", Rows.of(once), 64,
                "001 11 000000 111111" + Rows.number(once[0], 64) + "0".repeat(63));
    }

    private static void windowThatJustHolds() {
        CHECK.says("when it has at least as many zeros ahead, and at its end, as the WINDOW");
        long window = 0x81L << 30;
        int first = 3 + 14 + 8;
        CHECK.same("the same zeros", bitsBy(1, window, 0), first + 2 + 8);
        CHECK.same("one zero more ahead", bitsBy(1, window, window ^ 0x41L << 30), first + 2 + 8);
        CHECK.same("one zero more behind", bitsBy(1, window, window ^ 0x82L << 30), first + 2 + 8);
        CHECK.same("one zero less ahead", bitsBy(1, window, window ^ 0x101L << 30), first + 14 + 9);
        CHECK.same("one zero less behind", bitsBy(1, window, window ^ 0x81L << 29), first + 14 + 8);
        CHECK.same("one zero less behind, as wide", bitsBy(1, window, window ^ 0x103L << 29), first + 14 + 9);
        CHECK.same("one bit, all ahead", bitsBy(1, window, window ^ 1L << 37), first + 2 + 8);
        CHECK.same("one bit, all behind", bitsBy(1, window, window ^ 1L << 30), first + 2 + 8);
        CHECK.same("one bit ahead of the window", bitsBy(1, window, window ^ 1L << 38), first + 14 + 1);
        CHECK.same("one bit behind the window", bitsBy(1, window, window ^ 1L << 29), first + 14 + 1);
        CHECK.same("a window of 64 bits holds all", bitsBy(1, -1, 0x7FFFFFFFFFFFFFFEL ^ -1L), 3 + 14 + 64 + 2 + 64);
    }

    private static void windowOrNewOne() {
        CHECK.says("Of both the one with fewer bits, of like ones the first");
        long window = 0x8001L << 30;
        String first = "001 11 010010 001111 1000000000000001";
        // The window has 16 bits: a new one of 5 bits takes 17, of 4 bits 16, of 3 bits 15.
        packed("the window has fewer", Rows.of(window, window ^ 0x11L << 32), 2, first + "10 0000000001000100");
        packed("both have like ones", Rows.of(window, window ^ 0x9L << 32), 2, first + "10 0000000000100100");
        packed("a new one has fewer", Rows.of(window, window ^ 0x5L << 32), 2, first + "11 011101 000010 101");
        // The least: one bit, 13 by a new one.
        CHECK.same("12 bits, then one", bitsBy(1, 0x801L << 30, 0x800L << 30), 3 + 14 + 12 + 2 + 12);
        CHECK.same("13 bits, then one", bitsBy(1, 0x1001L << 30, 0x1000L << 30), 3 + 14 + 13 + 2 + 13);
        CHECK.same("14 bits, then one", bitsBy(1, 0x2001L << 30, 0x2000L << 30), 3 + 14 + 14 + 14 + 1);
    }

    private static void windowFromThenOn() {
        CHECK.says("they are the WINDOW from then on");
        // 8 bits; one bit within by the WINDOW; 8 bits again, which only the old one holds.
        long a = 0x81L << 30;
        long b = a ^ 1L << 33;
        packed("the old one stays when it is used", Rows.of(a, b, b ^ a), 3,
                "001 11 011010 000111 10000001 10 00001000 10 10000001");
        packed("the old one stays over a REST 0", Rows.of(a, a, a ^ b), 3,
                "001 11 011010 000111 10000001 0 10 10001001");
        // A new one of 4 bits elsewhere; then 8 bits again: the first one is gone.
        long c = a ^ 0x9L << 10;
        packed("the first one is gone", Rows.of(a, c, c ^ a), 3,
                "001 11 011010 000111 10000001 11 110010 000011 1001 11 011010 000111 10000001");
    }

    private static void windowNoneAsABlockBegins() {
        CHECK.says("the WINDOW (none is there as a block begins)");
        DoublePacks x = Rows.of(0x81L << 30, 0x80L << 30);
        x.pack(2);
        CHECK.same("within a block", x.bits(0, 1), 3 + 14 + 8 + 2 + 8);
        x.pack(1);
        CHECK.same("as the next block begins", x.bits(1, 1), 3 + 14 + 1);
        // A first REST of 64 bits: a WINDOW of 64 bits, were it there, would take 66.
        CHECK.same("as the first block begins", bitsBy(1, -1), 3 + 14 + 64);
    }

    private static void way2Strides() {
        CHECK.says("2: first 3 bits, s less 1");
        for (int s = 2; s <= 8; s++) {
            // Values of which nothing is foretold, and the one s before the next once more.
            long[] values = new long[10];
            for (int i = 0; i < 9; i++) {
                values[i] = wild(i);
            }
            values[9] = values[9 - s];
            DoublePacks x = Rows.of(values);
            x.pack(9);
            CHECK.same("s " + s + ": way", x.way(1), 2);
            CHECK.same("s " + s + ": bits", x.bits(1, 2), 7);
            int start = 16 + x.bits(0, x.way(0));
            CHECK.same("s " + s, Rows.outBits(x).substring(start, start + 7), "010" + Rows.number(s - 1, 3) + "0");
        }
        // A stride of 9 is none; one of 1 is never the shortest way, but counted.
        long[] values = new long[10];
        for (int i = 0; i < 9; i++) {
            values[i] = wild(i);
        }
        values[9] = values[0];
        DoublePacks x = Rows.of(values);
        x.pack(9);
        CHECK.same("9 before: bits by 2 are many", x.bits(1, 2) > 40 ? 1 : 0, 1);
        values[9] = values[8];
        DoublePacks y = Rows.of(values);
        y.pack(9);
        CHECK.same("1 before: bits by 2", y.bits(1, 2), 7);
        CHECK.same("1 before: bits by 1", y.bits(1, 1), 4);
        CHECK.same("1 before: way", y.way(1), 1);
    }

    private static long wild(int i) {
        return (0x6A09E667F3BCC909L * (2 * i + 3) ^ 0xBB67AE8584CAA73BL >>> i) | 1;
    }

    private static void way6Numbers() {
        CHECK.says("6 DECIMAL: with z its SCALED k less that of the value before in the block: 2 z, or -2 z - 1");
        packed("1.5, 1.25, 1.25, -0.01", Rows.ofDoubles(1.5, 1.25, 1.25, -0.01), 4,
                "110 0010 001001 100101100 000110001 000000000 011111011");
        // z: 5, 1, -1, 0, 2, -2.
        packed("small z", Rows.ofDoubles(0.5, 0.6, 0.5, 0.5, 0.7, 0.5), 6,
                "110 0001 000100 1010 0010 0001 0000 0100 0011");
        CHECK.says("6 DECIMAL: (0 ahead of the first)");
        DoublePacks x = Rows.ofDoubles(0.7, 0.8);
        packed("one each block", x, 1, "110 0001 000100 1110 110 0001 000101 10000");
        packed("both in a block", x, 2, "110 0001 000100 1110 0010");
    }

    private static void way6Width() {
        CHECK.says("6 DECIMAL: w is the least for all of them (0 to 54)");
        double[] ks = {0, -1, 1, -2, 2, -3, 3, -4, 4, 7, 8, -8, -9};
        int[] widths = {0, 1, 2, 2, 3, 3, 3, 3, 4, 4, 5, 4, 5};
        for (int i = 0; i < ks.length; i++) {
            CHECK.same("w of " + ks[i], bitsBy(6, Rows.bits(ks[i] == 0 ? 0.0 : ks[i])), 13 + widths[i]);
        }
        double most = (1L << 52) - 1;
        CHECK.same("w of one, the greatest", bitsBy(6, Rows.bits(most)), 13 + 53);
        CHECK.same("w of one, the least", bitsBy(6, Rows.bits(-most)), 13 + 53);
        CHECK.same("w 54 downwards", bitsBy(6, Rows.bits(most), Rows.bits(-most)), 13 + 2 * 54);
        CHECK.same("w 54 upwards", bitsBy(6, Rows.bits(-most), Rows.bits(most)), 13 + 2 * 54);
        double half = 1L << 51;
        CHECK.same("z of -2^52: w 53", bitsBy(6, Rows.bits(half), Rows.bits(-half)), 13 + 2 * 53);
        CHECK.same("z of -2^52 - 1: w 54", bitsBy(6, Rows.bits(half), Rows.bits(-half - 1)), 13 + 2 * 54);
        CHECK.same("z of 2^52 - 1: w 53", bitsBy(6, Rows.bits(-half), Rows.bits(half - 1)), 13 + 2 * 53);
        CHECK.same("z of 2^52: w 54", bitsBy(6, Rows.bits(-half), Rows.bits(half)), 13 + 2 * 54);
        CHECK.same("w by the last", bitsBy(6, 0, 0, Rows.bits(100.0)), 13 + 3 * 8);
        CHECK.same("w by the first", bitsBy(6, Rows.bits(100.0), Rows.bits(100.0), Rows.bits(100.0)), 13 + 3 * 8);
    }

    private static void way6Power() {
        CHECK.says("6 DECIMAL: Only when all its values are DECIMAL by e, the least such one");
        // 50 and 25 by 2.
        CHECK.same("e is one for all", bitsBy(6, Rows.bits(0.5), Rows.bits(0.25)), 13 + 2 * 7);
        CHECK.same("e of the last alone", bitsBy(6, Rows.bits(1.0), Rows.bits(1.0), Rows.bits(0.001)), 13 + 3 * 11);
        CHECK.same("no e for all", bitsBy(6, Rows.bits(10000000000000.5), Rows.bits(0.125)), NONE);
        CHECK.same("the first is none", bitsBy(6, Rows.bits(-0.0), Rows.bits(1.0)), NONE);
        CHECK.same("the last is none", bitsBy(6, Rows.bits(1.0), Rows.bits(1.0), Rows.bits(1 / 3.0)), NONE);
        CHECK.same("not of the block behind", twoBlocks(1.0, 1 / 3.0).bits(0, 6), 13 + 2);
        CHECK.same("nor of the one before", twoBlocks(1 / 3.0, 1.0).bits(1, 6), 13 + 2);
        CHECK.same("e of each block alone", twoBlocks(0.001, 1.0).bits(1, 6), 13 + 2);
        packed("e 15, w 2", Rows.ofDoubles(1e-15), 1, "110 1111 000010 10");
        packed("e 0, w 1", Rows.ofDoubles(-1.0), 1, "110 0000 000001 1");
        packed("e 14, w 2", Rows.ofDoubles(1e-14), 1, "110 1110 000010 10");
        CHECK.same("e 16 is none", bitsBy(6, Rows.bits(1e-16)), NONE);
        CHECK.same("k 2^52 - 1 by 15", bitsBy(6, Rows.bits(4.503599627370495)), 13 + 53);
        CHECK.same("k 2^52 by 15", bitsBy(6, Rows.bits(4.503599627370496)), NONE);
        // 5 by 15 would be beyond 2^52, and 1e-15 has no other e.
        CHECK.same("4 beside 1e-15", bitsBy(6, Rows.bits(4.0), Rows.bits(1e-15)) == NONE ? 1 : 0, 0);
        CHECK.same("5 beside 1e-15", bitsBy(6, Rows.bits(5.0), Rows.bits(1e-15)), NONE);
    }

    private static DoublePacks twoBlocks(double a, double b) {
        DoublePacks x = Rows.ofDoubles(a, b);
        x.pack(1);
        return x;
    }

    private static void way6Chosen() {
        CHECK.says("6 DECIMAL: w is the least for all of them (0 to 54)");
        // Eight values, so that no stride tells 0; their highest bits keep both tables at place 0.
        long[] values = new long[9];
        for (int i = 0; i < 8; i++) {
            values[i] = 0x40L * BYTE + 12345 * (i + 1);
        }
        DoublePacks x = Rows.of(values);
        x.pack(8);
        packed("10 values 0", Rows.zeros(10), 64, "001 0000000000");
        packed("11 values 0", Rows.zeros(11), 64, "110 0000 000000");
        CHECK.same("0 behind others: way", x.way(1), 6);
        CHECK.same("w 0: bits", x.bits(1, 6), 13);
        int start = 16 + x.bits(0, x.way(0));
        CHECK.same("w 0", Rows.outBits(x).substring(start, start + 13), "1100000000000");
    }

    private static void way7Heads() {
        CHECK.says("7 PARTS: of the first value the upper 12 bits; of each other one a bit 0, when they are those of "
                + "the value before, else a bit 1 and its 12 bits");
        packed("the same, then another", Rows.of(0x8011L << 48 | 1L << 47, 0x8012L << 48, 0x7FF5L << 48), 3,
                "111 100000000001 0 1 011111111111 101111 00011 00100 01010");
        packed("but for the sign the same", Rows.of(0x801L << 52, 1L << 52), 2,
                "111 100000000001 1 000000000001 110100");
        // One bit apart: the lowest of the 12, and the highest below them.
        CHECK.same("heads one apart", bitsBy(7, 5L << 52, 4L << 52), 3 + 12 + 13 + 6);
        CHECK.same("fractions apart", bitsBy(7, 4L << 52, 4L << 52 | 1L << 51), 3 + 12 + 1 + 6 + 2);
        CHECK.same("back again", bitsBy(7, 5L << 52, 4L << 52, 5L << 52), 3 + 12 + 26 + 6);
        DoublePacks x = Rows.of(4L << 52, 4L << 52);
        x.pack(1);
        CHECK.same("the first of the next block", x.bits(1, 7), 3 + 12 + 6);
    }

    private static void way7Tail() {
        CHECK.says("7 PARTS: 6 bits T, how many zeros all fractions have at their ends at least (52 when all are 0)");
        packed("T 52", Rows.of(ONE ^ Long.MIN_VALUE, Long.MIN_VALUE), 2, "111 101111111111 1 100000000000 110100");
        packed("T 51", Rows.of(0x7FF8L << 48), 1, "111 011111111111 110011 1");
        packed("T 50", Rows.of(0x7FF4L << 48), 1, "111 011111111111 110010 01");
        CHECK.same("T 1", bitsBy(7, ONE | 2), 3 + 12 + 6 + 51);
        CHECK.same("T 0", bitsBy(7, ONE | 1), 3 + 12 + 6 + 52);
        CHECK.same("of all the least", bitsBy(7, ONE, ONE | 1L << 10, ONE | 1L << 20), 3 + 12 + 2 + 6 + 3 * 42);
        CHECK.same("the least is the first one's", bitsBy(7, ONE | 1L << 10, ONE), 3 + 12 + 1 + 6 + 2 * 42);
        CHECK.same("all fractions 0, heads at their edges", bitsBy(7, 0, 0xFFFL << 52), 3 + 12 + 13 + 6);
        DoublePacks x = Rows.of(ONE | 1, ONE | 1L << 40, ONE | 1);
        x.pack(1);
        CHECK.same("T of a block between others", x.bits(1, 7), 3 + 12 + 6 + 12);
    }

    private static void tablesGoAlong() {
        CHECK.says("(Both tables go along with all values, whichever way blocks are packed.)");
        // By 0, 6, 7 and 1 each; of the last value both tables tell it, by the values before.
        long[] values = {0xC123456789ABCDEFL, Rows.bits(1.5), Rows.bits(0x1p300), Rows.bits(0x1p300), 0, 0};
        DoublePacks x = Rows.of(values[0], values[1], values[2], values[3]);
        values[4] = x.foretold(4, 4, 0);
        x.add(values[4]);
        values[5] = x.foretold(5, 5, 0);
        x.add(values[5]);
        x.pack(1);
        int[] ways = {0, 6, 7, 1};
        for (int b = 0; b < ways.length; b++) {
            CHECK.same("way(" + b + ")", x.way(b), ways[b]);
        }
        CHECK.same("the table tells value 4", x.bits(4, 4), 4);
        CHECK.same("the steps tell value 5", x.bits(5, 5), 4);
        // Blocks without a table: of the second block's first value it is told what the first block left.
        DoublePacks wide = Rows.of(0x40 * BYTE | 9, 7 * BYTE | 3, 0x38 * BYTE | 9, 0x40 * BYTE | 9);
        // Places: 0; 0; 7; 56 ^ 0x38 -> 0, where the second value stands by now.
        wide.pack(3);
        CHECK.same("what is foretold", wide.foretold(3, 4, 0), 7 * BYTE | 3);
        CHECK.same("is what is packed by", wide.bits(1, 4), 3 + 14 + restLength(wide.value(3) ^ wide.foretold(3, 4, 0)));
    }

    private static int restLength(long rest) {
        return 64 - Long.numberOfLeadingZeros(rest) - Long.numberOfTrailingZeros(rest);
    }

    private static void fewestBits() {
        CHECK.says("pack() takes for each block the WAY with the fewest bits");
        long[][] rows = {
            {0xC123456789ABCDEFL}, {0x0F00, 0x0F00, 0x0F00}, {5, -6, 5, -6, 5, -6, 5, -6, 5, -6, 5, -6}, {7, 12, 17, 22, 27},
            {BYTE | 1, 8 * BYTE | 2, 3}, {100, 200, 300}, {Rows.bits(0.1), Rows.bits(0.7)}, {0x7FFL << 52, 0xFFFL << 52}
        };
        for (long[] row : rows) {
            DoublePacks x = Rows.of(row);
            x.pack(64);
            int chosen = x.bits(0, x.way(0));
            for (int way = 0; way < 8; way++) {
                int bits = x.bits(0, way);
                CHECK.same(row.length + " values: " + way + " has not fewer", bits != NONE && bits < chosen ? 1 : 0, 0);
            }
            CHECK.same("the bits are those of OUT", x.size(), 4 + (chosen + 7) / 8);
        }
        // 6 has 13 + w bits, 7 has 21 + 52 - T: by one value 32, 64, 128 the one, both alike, the other.
        CHECK.same("32.0 by 6", wayOf(Rows.bits(32.0)), 6);
        CHECK.same("128.0 by 7", wayOf(Rows.bits(128.0)), 7);
        // 0 has 67 bits, 7 has 66 with T 7 and 68 with T 5.
        CHECK.same("T 7 by 7", wayOf(0xBB4440BA135F6780L), 7);
        CHECK.same("T 5 by 0", wayOf(0xBB4440BA135F6720L), 0);
    }

    private static int wayOf(long... values) {
        DoublePacks x = Rows.of(values);
        x.pack(64);
        return x.way(0);
    }

    private static void ofLikeOnesTheLeast() {
        CHECK.says("pack() takes for each block the WAY with the fewest bits, of like ones the least");
        likeWays(0, 1, 67, 0x510C3D1373B62L);
        likeWays(0, 2, 131, 0x22ADA81046AL, 0x2CA3C02AE3D2BC40L);
        likeWays(0, 3, 67, 0x510C3D1373B62L);
        likeWays(0, 4, 67, 0x510C3D1373B62L);
        likeWays(0, 5, 67, 0x510C3D1373B62L);
        likeWays(0, 7, 67, 0xBB4440BA135F6740L);
        likeWays(1, 2, 172, 0x4021570A3D70A3D7L, 0x4021570A3D70A3D3L, 0x2EB0000000000000L);
        likeWays(1, 3, 4, 0);
        likeWays(1, 4, 4, 0);
        likeWays(1, 5, 4, 0);
        likeWays(1, 6, 27, 0, Rows.bits(32.0));
        likeWays(1, 7, 21, 0x24L * BYTE);
        likeWays(2, 3, 116, 0x6691BBL, 0x49F78365C799FCB0L);
        likeWays(2, 4, 112, 0x5B90000000000000L, 0x5EC2CE7F7F14L, 0x4D30000000000000L);
        likeWays(2, 5, 116, 0x6691BBL, 0x49F78365C799FCB0L);
        likeWays(2, 6, 105, 0x406749999999999AL, 0xC280000000000000L);
        likeWays(2, 7, 90, 0x409C040000000000L, 0x6532AE2A9000000L);
        likeWays(3, 4, 106, 0, 0x84E0000000000000L, 0x4063133333333333L);
        likeWays(3, 5, 100, 0x15781CE13L, 0x2EE44F0952L);
        likeWays(3, 6, 103, 0xC270000000000000L, 0x403899999999999AL);
        likeWays(3, 7, 52, 0x2200000000000000L, 0x4080480000000000L);
        likeWays(4, 5, 130, 0x80E0000000000000L, 0x48D0000000000000L, 0x3B0964EF45246BABL);
        likeWays(4, 6, 63, 0x4102BE5E00000000L, 0xC000000000000000L);
        likeWays(4, 7, 68, 0xFE31B67800000000L, 0x1AE0000000000000L);
        likeWays(5, 6, 109, 0x408B400000000000L, 0xC1D79C6EBEC00000L, 0xC1D79C6EC4C00000L);
        likeWays(5, 7, 34, 0x4000000000000000L, 0xE000000000000000L);
        likeWays(6, 7, 21, Rows.bits(64.0));
    }

    private static void likeWays(int least, int other, int bits, long... values) {
        DoublePacks x = Rows.of(values);
        x.pack(64);
        String name = "of " + least + " and " + other;
        CHECK.same(name + ": bits by " + least, x.bits(0, least), bits);
        CHECK.same(name + ": bits by " + other, x.bits(0, other), bits);
        CHECK.same(name, x.way(0), least);
        CHECK.same(name + ": as told", Rows.outBits(x).substring(16, 19), Rows.number(least, 3));
    }

    private static void ofLikeStridesTheLeast() {
        CHECK.says("and for 2 the s with the fewest, of like ones the least");
        for (int s = 2; s <= 4; s++) {
            // The values repeat by s, so by 2 s, too.
            long[] values = new long[10];
            for (int i = 0; i < 9; i++) {
                values[i] = wild(i % s);
            }
            values[9] = values[9 - s];
            DoublePacks x = Rows.of(values);
            x.pack(9);
            int start = 16 + x.bits(0, x.way(0));
            CHECK.same("of " + s + " and " + 2 * s + ": bits by 2", x.bits(1, 2), 7);
            if (x.way(1) == 2) {
                CHECK.same("of " + s + " and " + 2 * s, Rows.outBits(x).substring(start, start + 7),
                        "010" + Rows.number(s - 1, 3) + "0");
            }
        }
        // No table knows the last value: so it is by 2 that it is told.
        long again = 0x7123456789ABCDEFL;
        DoublePacks pairs = Rows.of(again, 0x0FEDCBA987654321L, again, 0x2FEDCBA987654321L, again);
        pairs.pack(4);
        int start = 16 + pairs.bits(0, pairs.way(0));
        CHECK.same("way(1)", pairs.way(1), 2);
        CHECK.same("of 2 and 4", Rows.outBits(pairs).substring(start, start + 7), "0100010");
        // One bit away by 1, 2 and 4, all the same by 3.
        DoublePacks one = Rows.of(wild(1), wild(5), wild(1) ^ 1, wild(1) ^ 2, wild(1));
        one.pack(4);
        CHECK.same("the s with the fewest", one.bits(1, 2), 7);
    }

    private static void promise13Blocks() {
        CHECK.says("Promise 13: How many blocks OUT has");
        DoublePacks x = new DoublePacks();
        CHECK.same("before pack()", x.blocks(), 0);
        x.pack(1);
        CHECK.same("of no values", x.blocks(), 0);
        x.add(1);
        CHECK.same("until pack()", x.blocks(), 0);
        x.pack(64);
        CHECK.same("of one value", x.blocks(), 1);
        int[] counts = {63, 64, 65, 127, 128, 129, 192, 193, 255, 256};
        int[] due = {1, 1, 2, 2, 2, 3, 3, 4, 4, 4};
        for (int k = 0; k < counts.length; k++) {
            DoublePacks y = Rows.zeros(counts[k]);
            y.pack(64);
            CHECK.same(counts[k] + " by 64", y.blocks(), due[k]);
            y.pack(1);
            CHECK.same(counts[k] + " by 1", y.blocks(), counts[k]);
        }
        x.clear();
        CHECK.same("after clear()", x.blocks(), 1);
        CHECK.refused("a refused pack()", IllegalArgumentException.class, Rows::busy, y -> y.pack(0));
    }

    private static void promise14Way() {
        CHECK.says("Promise 14: The WAY of block b of OUT. IndexOutOfBoundsException");
        DoublePacks x = Rows.of(0xC123456789ABCDEFL, 0xC123456789ABCDEFL, Rows.bits(0x1p300));
        CHECK.noIndex("way(0) before pack()", () -> x.way(0));
        x.pack(1);
        CHECK.same("way(0)", x.way(0), 0);
        CHECK.same("way(1)", x.way(1), 1);
        CHECK.same("way(2)", x.way(2), 7);
        for (int b : new int[] {3, 4, 255, 256}) {
            CHECK.noIndex("way(" + b + ") of 3", () -> x.way(b));
        }
        for (int b : Rows.FAR) {
            CHECK.noIndex("way(" + b + ")", () -> x.way(b));
        }
        x.pack(3);
        CHECK.noIndex("way(1) of one block", () -> x.way(1));
        x.clear();
        x.pack(3);
        CHECK.noIndex("way(0) of no block", () -> x.way(0));
        DoublePacks full = Rows.zeros(256);
        full.pack(1);
        CHECK.same("way(255) of 256", full.way(255), 1);
        CHECK.noIndex("way(256) of 256", () -> full.way(256));
        CHECK.refused("way(2) of 2", IndexOutOfBoundsException.class, Rows::busy, y -> y.way(2));
    }

    private static void promise15Bits() {
        CHECK.says("Promise 15: How many bits block b of OUT has, or would have by a way (with its 3 bits)");
        DoublePacks x = Rows.ofDoubles(1.5, 1.5, -0.0, 2.5);
        x.pack(2);
        CHECK.same("bits(0, 0)", x.bits(0, 0), 131);
        CHECK.same("bits(0, 1)", x.bits(0, 1), 3 + 14 + 11 + 1);
        CHECK.same("bits(0, 2)", x.bits(0, 2), 3 + 3 + 14 + 11 + 1);
        // By LINE 1.5 is foretold twice as high: 0x7FF0000000000000.
        CHECK.same("bits(0, 3)", x.bits(0, 3), 3 + 14 + 11 + 14 + 12);
        // Their highest bits are 0x3F: both tables are at place 63, where 0 stands.
        CHECK.same("bits(0, 4)", x.bits(0, 4), 3 + 14 + 11 + 2 + 11);
        CHECK.same("bits(0, 5)", x.bits(0, 5), 3 + 14 + 11 + 1);
        CHECK.same("bits(0, 6)", x.bits(0, 6), 3 + 10 + 2 * 5);
        CHECK.same("bits(0, 7)", x.bits(0, 7), 3 + 12 + 1 + 6 + 2);
        CHECK.same("bits(1, 7)", x.bits(1, 7), 3 + 12 + 13 + 6 + 2 * 2);
        CHECK.same("OUT has as many", x.size(), 4 + (x.bits(0, x.way(0)) + x.bits(1, x.way(1)) + 7) / 8);
    }

    private static void promise15NotPackedSo() {
        CHECK.says("Promise 15: NONE: it can't be packed so");
        DoublePacks x = Rows.ofDoubles(1.5, -0.0, 1e-15, 1e-16);
        x.pack(1);
        CHECK.same("1.5 by 6", x.bits(0, 6), 13 + 5);
        CHECK.same("-0 by 6", x.bits(1, 6), NONE);
        CHECK.same("1e-15 by 6", x.bits(2, 6), 13 + 2);
        CHECK.same("1e-16 by 6", x.bits(3, 6), NONE);
        for (long bits : Rows.ODD_BITS) {
            DoublePacks y = Rows.of(bits);
            y.pack(1);
            for (int way = 0; way < 8; way++) {
                boolean none = way == 6 && bits != 0;
                CHECK.same("bits " + Long.toHexString(bits) + " by " + way, y.bits(0, way) == NONE ? 1 : 0, none ? 1 : 0);
            }
        }
    }

    private static void promise15Refused() {
        CHECK.says("Promise 15: IndexOutOfBoundsException. IllegalArgumentException: there is no such way");
        DoublePacks x = Rows.ofDoubles(1.5, 2.5);
        CHECK.noIndex("bits(0, 0) before pack()", () -> x.bits(0, 0));
        CHECK.noIndex("bits(0, 8) before pack()", () -> x.bits(0, 8));
        x.pack(1);
        CHECK.same("bits(1, 0)", x.bits(1, 0), 67);
        CHECK.same("bits(1, 7)", x.bits(1, 7), 3 + 12 + 6 + 2);
        CHECK.noIndex("bits(2, 0)", () -> x.bits(2, 0));
        CHECK.noIndex("bits(3, 7)", () -> x.bits(3, 7));
        CHECK.badArgument("bits(0, 8)", () -> x.bits(0, 8));
        CHECK.badArgument("bits(1, 9)", () -> x.bits(1, 9));
        CHECK.badArgument("bits(1, -1)", () -> x.bits(1, -1));
        for (int wrong : Rows.FAR) {
            CHECK.noIndex("bits(" + wrong + ", 0)", () -> x.bits(wrong, 0));
            CHECK.badArgument("bits(1, " + wrong + ")", () -> x.bits(1, wrong));
            CHECK.noIndex("bits(" + wrong + ", 8)", () -> x.bits(wrong, 8));
        }
        DoublePacks full = Rows.zeros(256);
        full.pack(1);
        CHECK.same("bits(255, 7) of 256", full.bits(255, 7), 3 + 12 + 6);
        CHECK.noIndex("bits(256, 0) of 256", () -> full.bits(256, 0));
        CHECK.says("Promise 15: of several that fit the one named first");
        CHECK.noIndex("bits(2, 8)", () -> x.bits(2, 8));
        CHECK.noIndex("bits(-1, -1)", () -> x.bits(-1, -1));
        CHECK.refused("bits(2, 0) of 2", IndexOutOfBoundsException.class, Rows::busy, y -> y.bits(2, 0));
        CHECK.refused("bits(1, 8) of 2", IllegalArgumentException.class, Rows::busy, y -> y.bits(1, 8));
    }

    private static void promise16Size() {
        CHECK.says("Promise 16: How many bytes OUT has");
        DoublePacks x = new DoublePacks();
        CHECK.same("before pack()", x.size(), 0);
        x.add(0);
        CHECK.same("until pack()", x.size(), 0);
        CHECK.same("pack() tells it", x.pack(1), 5);
        CHECK.same("size()", x.size(), 5);
        x.add(0xC123456789ABCDEFL);
        CHECK.same("as THE ROW grows", x.size(), 5);
        CHECK.same("pack() tells it again", x.pack(1), 2 + 9 + 2);
        CHECK.same("size() again", x.size(), 13);
        x.clear();
        x.pack(1);
        CHECK.same("of no values", x.size(), 4);
    }

    private static void promise17Out() {
        CHECK.says("Promise 17: Byte i of OUT. IndexOutOfBoundsException");
        DoublePacks x = Rows.of(0);
        CHECK.noIndex("out(0) before pack()", () -> x.out(0));
        x.pack(1);
        // 000000001 0000001 001 0 0000: 31 + 0; 31 * 31 + 129; 31 * 1090 + 32.
        int[] due = {0, 129, 32, 33822 >> 8, 33822 & 255};
        for (int i = 0; i < due.length; i++) {
            CHECK.same("out(" + i + ")", x.out(i), due[i]);
        }
        for (int i : new int[] {5, 6, 2147, 2148, 4000}) {
            CHECK.noIndex("out(" + i + ") of 5", () -> x.out(i));
        }
        for (int i : Rows.FAR) {
            CHECK.noIndex("out(" + i + ")", () -> x.out(i));
        }
        DoublePacks ones = Rows.of(0xC123456789ABFFFFL);
        ones.pack(1);
        CHECK.same("a byte of bits 1", ones.out(9), 255);
        ones.clear();
        ones.pack(1);
        CHECK.same("out(3) of 4", ones.out(3), 31 * 31 + 1 & 255);
        CHECK.noIndex("out(4) of 4, as it was longer", () -> ones.out(4));
        int size = Rows.busy().size();
        CHECK.refused("out behind the last", IndexOutOfBoundsException.class, Rows::busy, y -> y.out(size));
        CHECK.refused("out(-1)", IndexOutOfBoundsException.class, Rows::busy, y -> y.out(-1));
    }

    private static void outStaysAsItWas() {
        CHECK.says("Promises 13 to 17: of OUT (not of THE ROW, which may have changed)");
        DoublePacks x = Rows.ofDoubles(1.5, 2.5, 1 / 3.0, -0.0);
        x.pack(1);
        String due = Rows.outBits(x);
        int[] ways = {x.way(0), x.way(1), x.way(2), x.way(3)};
        int decimal = x.bits(1, 6);
        x.clear();
        x.decimal(1, 1);
        x.feed(1, 4);
        x.open();
        x.turn();
        x.change(0, 255);
        x.cut(1);
        CHECK.same("OUT", Rows.outBits(x), due);
        CHECK.same("blocks()", x.blocks(), 4);
        for (int b = 0; b < 4; b++) {
            CHECK.same("way(" + b + ")", x.way(b), ways[b]);
        }
        CHECK.same("bits(1, 6)", x.bits(1, 6), decimal);
        CHECK.same("bits(3, 6)", x.bits(3, 6), NONE);
        CHECK.same("a shorter OUT takes its place", x.pack(64), Rows.packed(1, 64, "110 0001 000010 10").length() / 8);
    }
}
