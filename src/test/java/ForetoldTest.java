/** Promise 9: foretold; FORETOLD. */
public final class ForetoldTest {
    private static final Check CHECK = new Check();
    private static final long LEAST = Long.MIN_VALUE;
    private static final long MOST = Long.MAX_VALUE;
    private static final long BYTE = 1L << 56;

    public static void main(String[] args) {
        whatLacksIsZero();
        last();
        strideAtEachLength();
        line();
        lineGoesThroughZero();
        lineWraps();
        tableAtFirst();
        tablePlaceOfTheHighestBits();
        tablePlaceOfTheOneBefore();
        tableIsWrittenOver();
        tableGoesOn();
        stepsAtFirst();
        stepsPlaceOfTheHighestBits();
        stepsGoOn();
        stepsWrap();
        promise9NextOne();
        promise9LaterValuesDoNotCount();
        promise9Index();
        promise9Kind();
        promise9Stride();
        promise9WhichComesFirst();
        CHECK.end();
    }

    private static void whatLacksIsZero() {
        CHECK.says("FORETOLD of value i by those before it in THE ROW (what lacks is 0)");
        for (DoublePacks x : new DoublePacks[] {new DoublePacks(), Rows.of(-77), Rows.of(-1, MOST, LEAST)}) {
            for (int kind = 1; kind <= 5; kind++) {
                for (int s = 1; s <= 8; s++) {
                    CHECK.same("foretold(0, " + kind + ", " + s + ")", x.foretold(0, kind, s), 0);
                }
            }
        }
    }

    private static void last() {
        CHECK.says("1 LAST: value i - 1");
        DoublePacks x = Rows.of(10, LEAST, -1, MOST);
        CHECK.same("of 1", x.foretold(1, 1, 0), 10);
        CHECK.same("of 2", x.foretold(2, 1, 0), LEAST);
        CHECK.same("of 3", x.foretold(3, 1, 0), -1);
        CHECK.same("of the next one", x.foretold(4, 1, 0), MOST);
    }

    private static void strideAtEachLength() {
        CHECK.says("2 STRIDE s (1 .. 8): value i - s (what lacks is 0)");
        DoublePacks x = Rows.of(10, 20, 30, 40, 50, 60, 70, 80, 90);
        for (int s = 1; s <= 8; s++) {
            CHECK.same("s " + s + ", one too few before", x.foretold(s - 1, 2, s), 0);
            CHECK.same("s " + s + ", just enough", x.foretold(s, 2, s), 10);
            CHECK.same("s " + s + ", one more", x.foretold(s + 1, 2, s), 20);
            CHECK.same("s " + s + ", of the next one", x.foretold(9, 2, s), 100 - 10 * s);
        }
    }

    private static void line() {
        CHECK.says("3 LINE: with t, u the values i - 1, i - 2 TURNED, what is 2 t - u TURNED (what lacks is 0)");
        DoublePacks x = Rows.of(7, 12, 16);
        CHECK.same("none before", x.foretold(0, 3, 0), 0);
        CHECK.same("one before", x.foretold(1, 3, 0), 14);
        CHECK.same("two before", x.foretold(2, 3, 0), 17);
        CHECK.same("three before", x.foretold(3, 3, 0), 20);
        CHECK.same("one below 0 before", Rows.of(LEAST + 4).foretold(1, 3, 0), LEAST + 9);
    }

    private static void lineGoesThroughZero() {
        CHECK.says("3 LINE: what is 2 t - u TURNED (turned twice a value is itself)");
        CHECK.same("down to 1", Rows.of(3, 2).foretold(2, 3, 0), 1);
        CHECK.same("down to 0", Rows.of(2, 1).foretold(2, 3, 0), 0);
        CHECK.same("down to -0", Rows.of(3, 1).foretold(2, 3, 0), LEAST);
        CHECK.same("down below -0", Rows.of(4, 1).foretold(2, 3, 0), LEAST + 1);
        CHECK.same("below 0", Rows.of(LEAST + 5, LEAST + 7).foretold(2, 3, 0), LEAST + 9);
        CHECK.same("up to -0", Rows.of(LEAST + 2, LEAST + 1).foretold(2, 3, 0), LEAST);
        CHECK.same("up to 0", Rows.of(LEAST + 1, LEAST).foretold(2, 3, 0), 0);
        CHECK.same("up above 0", Rows.of(LEAST, 0).foretold(2, 3, 0), 1);
        CHECK.same("of two like ones", Rows.of(-5, -5).foretold(2, 3, 0), -5);
    }

    private static void lineWraps() {
        CHECK.says("3 LINE (numbers of 64 bits wrap)");
        long half = 1L << 62;
        CHECK.same("2 t just does not wrap", Rows.of(half - 1).foretold(1, 3, 0), MOST - 1);
        CHECK.same("2 t just wraps", Rows.of(half).foretold(1, 3, 0), -1);
        CHECK.same("2 t wraps by one more", Rows.of(half + 1).foretold(1, 3, 0), -3);
        CHECK.same("up to the greatest", Rows.of(MOST - 2, MOST - 1).foretold(2, 3, 0), MOST);
        CHECK.same("over the greatest", Rows.of(MOST - 1, MOST).foretold(2, 3, 0), -1);
        // TURNED, all bits 1 are the least long, and all but the lowest the next one.
        CHECK.same("down to the least", Rows.of(-3, -2).foretold(2, 3, 0), -1);
        CHECK.same("below the least", Rows.of(-2, -1).foretold(2, 3, 0), MOST);
        CHECK.same("t the greatest, u the least", Rows.of(-1, MOST).foretold(2, 3, 0), MOST - 1);
        CHECK.same("t the least, u the greatest", Rows.of(MOST, -1).foretold(2, 3, 0), -2);
    }

    private static void tableAtFirst() {
        CHECK.says("4 TABLE: of 64 values, all 0 at first, that at a place a (0 at first); then value i stands there");
        DoublePacks x = Rows.of(5, 6);
        CHECK.same("of 0", x.foretold(0, 4, 0), 0);
        CHECK.same("of 1: a is 0 again", x.foretold(1, 4, 0), 5);
        CHECK.same("of the next one", x.foretold(2, 4, 0), 6);
        DoublePacks y = Rows.of(BYTE | 5, 2 * BYTE | 6, -BYTE | 7, 0x40 * BYTE | 8);
        for (int i = 0; i <= 4; i++) {
            CHECK.same("places 0, 1, 10, 47, 56 hold 0, of " + i, y.foretold(i, 4, 0), 0);
        }
    }

    private static void tablePlaceOfTheHighestBits() {
        CHECK.says("a becomes the lowest 6 bits of (8 a xor the highest 8 bits of value i)");
        // From place 0 a value comes to the lowest 6 of its highest 8 bits; only at 0 there stands one, itself.
        for (int high = 0; high < 256; high++) {
            for (long low : new long[] {1, BYTE - 1}) {
                long bits = high * BYTE | low;
                long due = high % 64 == 0 ? bits : 0;
                CHECK.same("highest bits " + high, Rows.of(bits).foretold(1, 4, 0), due);
            }
        }
    }

    private static void tablePlaceOfTheOneBefore() {
        CHECK.says("a becomes the lowest 6 bits of (8 a xor the highest 8 bits of value i)");
        // The second value is at place p, and comes back to 0, to p, or to neither.
        for (int p = 1; p < 64; p++) {
            for (int high = 0; high < 256; high++) {
                long first = p * BYTE | 1;
                long second = high * BYTE | 2;
                int place = (8 * p ^ high) % 64;
                long due = place == 0 ? first : place == p ? second : 0;
                CHECK.same("from " + p + " by " + high, Rows.of(first, second).foretold(2, 4, 0), due);
            }
        }
    }

    private static void tableIsWrittenOver() {
        CHECK.says("4 TABLE: then value i stands there instead");
        // 0x3F leads from 0 to 63, and 0x07 from 63 to 63.
        DoublePacks x = Rows.of(0x3F * BYTE, 7 * BYTE | 1, 7 * BYTE | 2);
        CHECK.same("at 63 at first", x.foretold(1, 4, 0), 0);
        CHECK.same("at 63 then", x.foretold(2, 4, 0), 7 * BYTE | 1);
        CHECK.same("at 63 instead", x.foretold(3, 4, 0), 7 * BYTE | 2);
        CHECK.same("the older one stays foretold", x.foretold(2, 4, 0), 7 * BYTE | 1);
    }

    private static void tableGoesOn() {
        CHECK.says("4 TABLE: that at a place a; then value i stands there instead, and a becomes ..");
        // The places: 0; then 0x01 -> 1; then 8 ^ 0x02 -> 10; then 80 ^ 0xFF -> 47; then 376 ^ 0x40 -> 56.
        long[] values = {BYTE | 5, 2 * BYTE | 6, -BYTE | 7, 0x40 * BYTE | 8};
        DoublePacks x = Rows.of(values);
        // From 56: 448 ^ 0x41 -> 1, where the second value stands; 8 ^ 0x02 -> 10, where the third one does.
        x.add(0x41 * BYTE);
        CHECK.same("the table at 1", x.foretold(5, 4, 0), values[1]);
        x.add(2 * BYTE);
        CHECK.same("the table at 10", x.foretold(6, 4, 0), values[2]);
        CHECK.same("an older one stays foretold", x.foretold(5, 4, 0), values[1]);
        // From 10: 80 ^ 0x51 -> 1, where the sixth value stands by now.
        x.add(0x51 * BYTE);
        CHECK.same("the table at 1 again", x.foretold(7, 4, 0), 2 * BYTE);
    }

    private static void stepsAtFirst() {
        CHECK.says("5 STEPS: value i - 1 and the one at a place b of another such table; then there stands d");
        DoublePacks x = Rows.of(100, 110, 120);
        CHECK.same("of 0", x.foretold(0, 5, 0), 0);
        CHECK.same("of 1: d is 100, as what lacks is 0", x.foretold(1, 5, 0), 200);
        CHECK.same("of 2: d is 10", x.foretold(2, 5, 0), 120);
        CHECK.same("of the next one", x.foretold(3, 5, 0), 130);
        CHECK.same("a place that holds 0", Rows.of(BYTE).foretold(1, 5, 0), BYTE);
    }

    private static void stepsPlaceOfTheHighestBits() {
        CHECK.says("b becomes the lowest 6 bits of (8 b xor the highest 8 bits of d)");
        // The first d is the first value; the second one leads from p to 0, to p, or to neither.
        for (int p = 0; p < 64; p++) {
            for (int high = 0; high < 256; high++) {
                long first = p * BYTE | 3;
                long step = high * BYTE | 5;
                int place = (8 * p ^ high) % 64;
                long due = place == p ? step : place == 0 ? first : 0;
                CHECK.same("from " + p + " by a step " + high, Rows.of(first, first + step).foretold(2, 5, 0),
                        first + step + due);
            }
        }
        CHECK.same("d of 2^56 - 1", Rows.of(BYTE - 1).foretold(1, 5, 0), 2 * BYTE - 2);
        CHECK.same("d of 2^56", Rows.of(BYTE).foretold(1, 5, 0), BYTE);
    }

    private static void stepsGoOn() {
        CHECK.says("5 STEPS: then there stands d, value i less value i - 1, instead, and b becomes ..");
        DoublePacks x = Rows.of(100, 110, 120);
        // A step of -1 has 8 bits 1: the place becomes 63, where 0 stands; the next one 504 ^ 255 -> 7.
        x.add(119);
        CHECK.same("steps at 63", x.foretold(4, 5, 0), 119);
        x.add(118);
        CHECK.same("steps at 7", x.foretold(5, 5, 0), 118);
        // From 7: 56 ^ 0 -> 56; 448 ^ 0 -> 0, where the step -1 stands.
        x.add(118);
        CHECK.same("steps at 56", x.foretold(6, 5, 0), 118);
        x.add(120);
        CHECK.same("steps at 0 again", x.foretold(7, 5, 0), 119);
        // Of the values the highest bits are 0: the other table's place is 0 all the time.
        CHECK.same("another such table", x.foretold(7, 4, 0), 120);
    }

    private static void stepsWrap() {
        CHECK.says("5 STEPS (numbers of 64 bits wrap)");
        // 0x80 and 0x40 keep the place at 0.
        CHECK.same("2^63 and 2^63", Rows.of(LEAST).foretold(1, 5, 0), 0);
        CHECK.same("2^62 and 2^62", Rows.of(1L << 62).foretold(1, 5, 0), LEAST);
        CHECK.same("2^62 - 1 is at a place of its own", Rows.of((1L << 62) - 1).foretold(1, 5, 0), (1L << 62) - 1);
        // From 1 down to the least long d is the greatest: 0x7F leads to 63.
        CHECK.same("d wraps to the greatest", Rows.of(1, LEAST).foretold(2, 5, 0), LEAST);
        // From 2^62 + 2^62 on: d is 2^62 again, and stands at 0.
        CHECK.same("d wraps with its value", Rows.of(1L << 62, LEAST).foretold(2, 5, 0), LEAST + (1L << 62));
        // From the greatest to the least d is 1, and stands at 63; 0x3F leads there from 56.
        long back = LEAST + 0x3F * BYTE;
        CHECK.same("d wraps to 1", Rows.of(MOST, LEAST, back).foretold(3, 5, 0), back + 1);
        // d of -2^63, which leads from 0 to 0: the least long and it are 0.
        CHECK.same("d is the least", Rows.of(0, LEAST).foretold(2, 5, 0), 0);
    }

    private static void promise9NextOne() {
        CHECK.says("Promise 9: What is FORETOLD of value i (also of the one that would come next)");
        CHECK.same("of none: the first one", new DoublePacks().foretold(0, 1, 0), 0);
        CHECK.same("of one: the second one", Rows.of(8).foretold(1, 1, 0), 8);
        DoublePacks almost = Rows.counted(255);
        CHECK.same("behind 255 values", almost.foretold(255, 1, 0), 254);
        DoublePacks full = Rows.full();
        CHECK.same("the last of 256 values", full.foretold(255, 1, 0), 254);
        CHECK.same("behind 256 values", full.foretold(256, 1, 0), 255);
        CHECK.same("behind 256 values by a stride", full.foretold(256, 2, 8), 248);
        CHECK.same("behind 256 values by a line", full.foretold(256, 3, 0), 256);
        CHECK.same("behind 256 values by the table", full.foretold(256, 4, 0), 255);
        CHECK.same("behind 256 values by steps", full.foretold(256, 5, 0), 256);
    }

    private static void promise9LaterValuesDoNotCount() {
        CHECK.says("FORETOLD of value i by those before it in THE ROW");
        long[] values = {0x3FF8L << 48, 0x4002L << 48 | 7, 0x3FF9L << 48 | 3, 0xC01AL << 48, 0x3FF8L << 48, 12345, 12346};
        DoublePacks whole = Rows.of(values);
        DoublePacks growing = new DoublePacks();
        for (int i = 0; i <= values.length; i++) {
            for (int kind = 1; kind <= 5; kind++) {
                CHECK.same("foretold(" + i + ", " + kind + ", 3)", whole.foretold(i, kind, 3),
                        growing.foretold(i, kind, 3));
            }
            if (i < values.length) {
                growing.add(values[i]);
            }
        }
    }

    private static void promise9Index() {
        CHECK.says("Promise 9: IndexOutOfBoundsException");
        DoublePacks none = new DoublePacks();
        DoublePacks x = Rows.of(1, 2, 3);
        DoublePacks almost = Rows.zeros(255);
        DoublePacks full = Rows.zeros(256);
        for (int kind = 1; kind <= 5; kind++) {
            int by = kind;
            CHECK.noIndex("foretold(1, ..) of none", () -> none.foretold(1, by, 1));
            CHECK.noIndex("foretold(4, ..) of 3", () -> x.foretold(4, by, 1));
            CHECK.noIndex("foretold(5, ..) of 3", () -> x.foretold(5, by, 1));
            CHECK.noIndex("foretold(256, ..) of 255", () -> almost.foretold(256, by, 1));
            CHECK.noIndex("foretold(257, ..) of 256", () -> full.foretold(257, by, 1));
            for (int i : Rows.FAR) {
                CHECK.noIndex("foretold(" + i + ", ..)", () -> x.foretold(i, by, 1));
                CHECK.noIndex("foretold(" + i + ", ..) of 256", () -> full.foretold(i, by, 1));
            }
        }
        CHECK.refused("foretold(6, 4, 1) of 5", IndexOutOfBoundsException.class, Rows::busy, y -> y.foretold(6, 4, 1));
    }

    private static void promise9Kind() {
        CHECK.says("Promise 9: by a kind 1 .. 5. IllegalArgumentException: another kind");
        DoublePacks x = Rows.of(1, 2, 3);
        CHECK.same("kind 1", x.foretold(3, 1, 1), 3);
        CHECK.same("kind 5", x.foretold(3, 5, 1), 4);
        for (int kind : new int[] {0, 6, 7, 8}) {
            CHECK.badArgument("kind " + kind, () -> x.foretold(1, kind, 1));
            CHECK.refused("kind " + kind, IllegalArgumentException.class, Rows::busy, y -> y.foretold(1, kind, 1));
        }
        for (int kind : Rows.FAR) {
            CHECK.badArgument("kind " + kind, () -> x.foretold(1, kind, 1));
        }
    }

    private static void promise9Stride() {
        CHECK.says("Promise 9: and s (which counts for 2 alone). IllegalArgumentException: (of 2) s");
        DoublePacks x = Rows.of(1, 2, 3);
        CHECK.same("s 1", x.foretold(3, 2, 1), 3);
        CHECK.same("s 8", x.foretold(3, 2, 8), 0);
        for (int s : new int[] {0, 9, 10, 16}) {
            CHECK.badArgument("s " + s, () -> x.foretold(1, 2, s));
            CHECK.badArgument("s " + s + " of the first one", () -> x.foretold(0, 2, s));
            CHECK.refused("s " + s, IllegalArgumentException.class, Rows::busy, y -> y.foretold(1, 2, s));
        }
        for (int s : Rows.FAR) {
            CHECK.badArgument("s " + s, () -> x.foretold(1, 2, s));
        }
        long[] due = {3, 0, 4, 3, 4};
        for (int s : new int[] {Integer.MIN_VALUE, -1, 0, 9, Integer.MAX_VALUE}) {
            for (int kind : new int[] {1, 3, 4, 5}) {
                CHECK.same("s " + s + " for kind " + kind, x.foretold(3, kind, s), due[kind - 1]);
            }
        }
    }

    private static void promise9WhichComesFirst() {
        CHECK.says("Promise 9: of several that fit the one named first");
        DoublePacks x = Rows.of(1, 2, 3);
        CHECK.noIndex("foretold(4, 6, 1)", () -> x.foretold(4, 6, 1));
        CHECK.noIndex("foretold(4, 2, 9)", () -> x.foretold(4, 2, 9));
        CHECK.noIndex("foretold(-1, 0, 0)", () -> x.foretold(-1, 0, 0));
        CHECK.badArgument("foretold(3, 6, 1)", () -> x.foretold(3, 6, 1));
        CHECK.badArgument("foretold(3, 2, 9)", () -> x.foretold(3, 2, 9));
    }
}
