/** Promise 9: foretold. */
public final class ForetoldTest {
    private static final Check CHECK = new Check();

    public static void main(String[] args) {
        nothingBefore();
        lastAndStride();
        line();
        table();
        steps();
        refuses();
        CHECK.end();
    }

    private static void nothingBefore() {
        DoublePacks x = Rows.of(77);
        for (int kind = 1; kind <= 5; kind++) {
            CHECK.same("foretold(0, " + kind + ", 8)", x.foretold(0, kind, 8), 0);
        }
        CHECK.same("a stride beyond the start", x.foretold(1, 2, 2), 0);
    }

    private static void lastAndStride() {
        DoublePacks x = Rows.of(10, 20, 30, 40, 50, 60, 70, 80, 90);
        CHECK.same("last of the next one", x.foretold(9, 1, 0), 90);
        CHECK.same("last of the first but one", x.foretold(1, 1, 0), 10);
        for (int s = 1; s <= 8; s++) {
            CHECK.same("stride " + s, x.foretold(9, 2, s), 100 - 10 * s);
        }
        CHECK.same("s does not count for others", x.foretold(9, 1, 99), 90);
        CHECK.same("nor below 1", x.foretold(9, 3, -1), 100);
        DoublePacks full = Rows.full();
        CHECK.same("behind 256 values", full.foretold(256, 1, 0), 255);
        CHECK.same("behind 256 values by a stride", full.foretold(256, 2, 8), 248);
        CHECK.same("behind 256 values by a line", full.foretold(256, 3, 0), 256);
    }

    private static void line() {
        CHECK.same("one value makes a line from 0", Rows.of(7).foretold(1, 3, 0), 14);
        DoublePacks down = Rows.of(3, 1);
        CHECK.same("a line goes below 0", down.foretold(2, 3, 0), Long.MIN_VALUE);
        DoublePacks below = Rows.of(Long.MIN_VALUE + 5, Long.MIN_VALUE + 7);
        CHECK.same("a line below 0", below.foretold(2, 3, 0), Long.MIN_VALUE + 9);
        DoublePacks wrap = Rows.of(0, Long.MAX_VALUE);
        CHECK.same("a line wraps", wrap.foretold(2, 3, 0), -2 ^ Long.MAX_VALUE);
    }

    private static void table() {
        // The places: 0; then 0x01 -> 1; then 8 ^ 0x02 -> 10; then 80 ^ 0xFF -> 47; then 376 ^ 0x40 -> 56.
        long[] values = {0x01L << 56 | 5, 0x02L << 56 | 6, 0xFFL << 56 | 7, 0x40L << 56 | 8};
        DoublePacks x = Rows.of(values);
        for (int i = 0; i <= 4; i++) {
            CHECK.same("new places hold 0, of " + i, x.foretold(i, 4, 0), 0);
        }
        // From 56: 448 ^ 0x41 -> 1, where the second value stands; 8 ^ 0x02 -> 10, where the third one does.
        x.add(0x41L << 56);
        CHECK.same("the table at 1", x.foretold(5, 4, 0), values[1]);
        x.add(0x02L << 56);
        CHECK.same("the table at 10", x.foretold(6, 4, 0), values[2]);
        CHECK.same("an older one stays foretold", x.foretold(5, 4, 0), values[1]);
        // From 10: 80 ^ 0x51 -> 1, where the sixth value stands by now.
        x.add(0x51L << 56);
        CHECK.same("the table at 1 again", x.foretold(7, 4, 0), 0x02L << 56);
    }

    private static void steps() {
        DoublePacks x = Rows.of(100, 110, 120);
        // All steps have highest bits 0, so that the place stays 0.
        CHECK.same("steps after one", x.foretold(1, 5, 0), 200);
        CHECK.same("steps after two", x.foretold(2, 5, 0), 120);
        CHECK.same("steps after three", x.foretold(3, 5, 0), 130);
        // A step of -1 has 8 bits 1: the place becomes 63, where 0 stands; the next one 504 ^ 255 -> 7.
        x.add(119);
        CHECK.same("steps at 63", x.foretold(4, 5, 0), 119);
        x.add(118);
        CHECK.same("steps at 7", x.foretold(5, 5, 0), 118);
        // From 7: 56 ^ 0 -> 56; 448 ^ 0 -> 0, where the step -1 stands.
        x.add(118);
        CHECK.same("steps at 56", x.foretold(6, 5, 0), 118);
        x.add(120);
        CHECK.same("steps at 0 again", x.foretold(7, 5, 0), 119);
        DoublePacks wrap = Rows.of(Long.MIN_VALUE);
        wrap.add(Long.MIN_VALUE);
        CHECK.same("steps wrap", Rows.of(1L << 54, 1L << 55).foretold(2, 5, 0), 3L << 54);
        // 0x80 keeps the place at 0: 2^63 + 2^63 is 0.
        CHECK.same("numbers of 64 bits wrap", wrap.foretold(1, 5, 0), 0);
    }

    private static void refuses() {
        DoublePacks x = Rows.of(1, 2, 3);
        for (int i : new int[] {4, -1, 256, 257, Integer.MAX_VALUE, Integer.MIN_VALUE}) {
            CHECK.noIndex("foretold(" + i + ", 1, 1)", () -> x.foretold(i, 1, 1));
            CHECK.noIndex("foretold(" + i + ", 9, 9): the index is named first", () -> x.foretold(i, 9, 9));
        }
        for (int kind : new int[] {0, 6, 7, -1, Integer.MAX_VALUE, Integer.MIN_VALUE}) {
            CHECK.badArgument("kind " + kind, () -> x.foretold(1, kind, 1));
        }
        for (int s : new int[] {0, 9, -1, Integer.MAX_VALUE, Integer.MIN_VALUE}) {
            CHECK.badArgument("stride " + s, () -> x.foretold(1, 2, s));
        }
        DoublePacks full = Rows.full();
        CHECK.noIndex("foretold(257, 1, 1) of 256", () -> full.foretold(257, 1, 1));
    }
}
