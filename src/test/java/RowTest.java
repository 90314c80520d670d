/** Promises 1, 2 and 4 to 8: a new object, add, count, clear, value, turned, rank; THE ROW and TURNED. */
public final class RowTest {
    private static final Check CHECK = new Check();
    private static final long LEAST = Long.MIN_VALUE;
    private static final long MOST = Long.MAX_VALUE;

    public static void main(String[] args) {
        promise1NewObject();
        promise1ObjectsAreApart();
        rowOfAnyBits();
        promise2AddUpTo256();
        promise2AddRefused();
        promise4Count();
        promise5Clear();
        promise5ClearLeavesTheRest();
        promise5ClearEmptiesTheTables();
        promise6Value();
        turnedAtItsEdges();
        turnedValuesRise();
        noNumbersLieAtBothEnds();
        promise7TurnedIndex();
        promise8Rank();
        promise8RankOfLikeOnes();
        promise8RankIndex();
        CHECK.end();
    }

    private static void promise1NewObject() {
        CHECK.says("Promise 1: No values; nothing packed; an empty TAPE");
        DoublePacks x = new DoublePacks();
        CHECK.same("NONE", DoublePacks.NONE, -1);
        CHECK.same("count()", x.count(), 0);
        CHECK.same("size()", x.size(), 0);
        CHECK.same("blocks()", x.blocks(), 0);
        CHECK.same("place()", x.place(), DoublePacks.NONE);
        CHECK.noIndex("value(0)", () -> x.value(0));
        CHECK.noIndex("turned(0)", () -> x.turned(0));
        CHECK.noIndex("rank(0)", () -> x.rank(0));
        CHECK.noIndex("power(0)", () -> x.power(0));
        CHECK.noIndex("scaled(0, 0)", () -> x.scaled(0, 0));
        CHECK.noIndex("foretold(1, 1, 1)", () -> x.foretold(1, 1, 1));
        CHECK.noIndex("out(0)", () -> x.out(0));
        CHECK.noIndex("way(0)", () -> x.way(0));
        CHECK.noIndex("bits(0, 0)", () -> x.bits(0, 0));
        CHECK.noIndex("change(0, 0)", () -> x.change(0, 0));
        CHECK.badArgument("cut(1)", () -> x.cut(1));
        CHECK.same("cut(0)", x.cut(0), 0);
        CHECK.same("clear()", x.clear(), 0);
        CHECK.same("turn()", x.turn(), 0);
        CHECK.same("open() of an empty TAPE", x.open(), 1);
    }

    private static void promise1ObjectsAreApart() {
        CHECK.says("Promise 1: A new object");
        DoublePacks x = Rows.busy();
        CHECK.same("a FAULT is told of the busy one", x.place() == DoublePacks.NONE ? 0 : 1, 1);
        DoublePacks y = new DoublePacks();
        CHECK.same("count() of another object", y.count(), 0);
        CHECK.same("size() of another object", y.size(), 0);
        CHECK.same("place() of another object", y.place(), DoublePacks.NONE);
        y.add(4);
        y.pack(64);
        y.feed(-1, 8);
        y.open();
        CHECK.same("an object beside another one", State.of(x), State.of(Rows.busy()));
    }

    private static void rowOfAnyBits() {
        CHECK.says("each the 64 bits of a double .. (any bits may come)");
        for (int size : new int[] {1, 2, 17, 18, 64}) {
            DoublePacks x = Rows.of(Rows.ODD_BITS);
            x.pack(size);
            x.turn();
            x.clear();
            CHECK.same("open() of odd bits by " + size, x.open(), 0);
            CHECK.same("count() of odd bits by " + size, x.count(), Rows.ODD_BITS.length);
            for (int i = 0; i < Rows.ODD_BITS.length; i++) {
                CHECK.same("odd bits " + i + " by " + size, x.value(i), Rows.ODD_BITS[i]);
            }
        }
    }

    private static void promise2AddUpTo256() {
        CHECK.says("THE ROW has up to 256 VALUES; Promise 2: A value more: how many");
        DoublePacks x = new DoublePacks();
        for (int i = 0; i < 256; i++) {
            CHECK.same("add number " + i, x.add(~i), i + 1);
        }
        CHECK.badState("add to 256", () -> x.add(0));
        CHECK.badState("add to 256 again", () -> x.add(-1));
        CHECK.same("count()", x.count(), 256);
        CHECK.same("value(0)", x.value(0), -1);
        CHECK.same("value(255)", x.value(255), ~255);
        CHECK.same("clear()", x.clear(), 256);
        CHECK.same("add after clear()", x.add(7), 1);
        CHECK.same("value(0) after clear()", x.value(0), 7);
        DoublePacks taped = Rows.zeros(255);
        CHECK.same("add to 255 of a TAPE", taped.add(1), 256);
        CHECK.badState("add to 256 of a TAPE", () -> taped.add(1));
    }

    private static void promise2AddRefused() {
        CHECK.says("Promise 2: IllegalStateException: there are 256; nothing is changed");
        CHECK.refused("add(5) to 256", IllegalStateException.class, Rows::full, x -> x.add(5));
        CHECK.refused("add(-5) to 256 of a TAPE", IllegalStateException.class, () -> Rows.zeros(256), x -> x.add(-5));
    }

    private static void promise4Count() {
        CHECK.says("Promise 4: How many values");
        DoublePacks x = new DoublePacks();
        CHECK.same("count() of none", x.count(), 0);
        x.add(0);
        CHECK.same("count() of one", x.count(), 1);
        CHECK.same("count() again", x.count(), 1);
        x.decimal(1, 1);
        CHECK.same("count() after decimal", x.count(), 2);
        x.pack(1);
        x.turn();
        CHECK.same("count() after pack and turn", x.count(), 2);
        x.clear();
        CHECK.same("count() after clear", x.count(), 0);
        x.open();
        CHECK.same("count() after open", x.count(), 2);
        x.cut(0);
        x.open();
        CHECK.same("count() after a FAULT", x.count(), 2);
        for (int count : new int[] {254, 255, 256}) {
            CHECK.same("count() of " + count, Rows.counted(count).count(), count);
            CHECK.same("count() of " + count + " of a TAPE", Rows.zeros(count).count(), count);
        }
    }

    private static void promise5Clear() {
        CHECK.says("Promise 5: No values any more: how many there were");
        for (int count : new int[] {0, 1, 2, 255, 256}) {
            DoublePacks x = Rows.counted(count);
            CHECK.same("clear() of " + count, x.clear(), count);
            CHECK.same("count()", x.count(), 0);
            CHECK.noIndex("value(0)", () -> x.value(0));
            CHECK.same("clear() again", x.clear(), 0);
        }
    }

    private static void promise5ClearLeavesTheRest() {
        CHECK.says("Promise 5: No values any more (OUT, THE TAPE, place() stay)");
        DoublePacks x = Rows.of(5, -6, 7);
        x.pack(2);
        x.open();
        x.turn();
        int size = x.size();
        CHECK.same("clear()", x.clear(), 3);
        CHECK.same("size() stays", x.size(), size);
        CHECK.same("blocks() stay", x.blocks(), 2);
        CHECK.same("place() stays", x.place(), 0);
        CHECK.same("THE TAPE stays", x.cut(size), 0);
        CHECK.same("and is read", x.open(), 0);
        CHECK.same("value(1)", x.value(1), -6);
    }

    private static void promise5ClearEmptiesTheTables() {
        CHECK.says("Promise 5: No values any more (so what lacks is 0, and both tables are as at first)");
        DoublePacks x = Rows.of(0x0101L << 48, 0x4202L << 48, 0x3303L << 48, 0x7404L << 48);
        x.clear();
        for (int kind = 1; kind <= 5; kind++) {
            CHECK.same("foretold(0, " + kind + ", 1)", x.foretold(0, kind, 1), 0);
        }
        CHECK.noIndex("foretold(1, 1, 1)", () -> x.foretold(1, 1, 1));
        long[] again = {0x0151L << 48, 0x4252L << 48, 0x3353L << 48, 0x7454L << 48};
        DoublePacks y = Rows.of(again);
        for (long bits : again) {
            x.add(bits);
        }
        CHECK.same("a cleared object and a new one", State.of(x), State.of(y));
        // The value leads both tables to a place that is not 0; then they are at 0 again.
        for (long high = 1; high < 64; high++) {
            DoublePacks z = Rows.of(high << 56);
            z.clear();
            z.add(5);
            CHECK.same("cleared at place " + high + ": the table", z.foretold(1, 4, 0), 5);
            CHECK.same("cleared at place " + high + ": the steps", z.foretold(1, 5, 0), 10);
        }
    }

    private static void promise6Value() {
        CHECK.says("Promise 6: Value i. IndexOutOfBoundsException");
        DoublePacks x = Rows.of(LEAST, MOST, -1);
        CHECK.same("value(0)", x.value(0), LEAST);
        CHECK.same("value(1)", x.value(1), MOST);
        CHECK.same("value(2)", x.value(2), -1);
        for (int i : new int[] {3, 4, 255, 256, 257}) {
            CHECK.noIndex("value(" + i + ") of 3", () -> x.value(i));
        }
        for (int i : Rows.FAR) {
            CHECK.noIndex("value(" + i + ")", () -> x.value(i));
        }
        DoublePacks full = Rows.full();
        CHECK.same("value(254) of 256", full.value(254), 254);
        CHECK.same("value(255) of 256", full.value(255), 255);
        CHECK.noIndex("value(256) of 256", () -> full.value(256));
        CHECK.noIndex("value(-1) of 256", () -> full.value(-1));
        CHECK.refused("value(5) of 5", IndexOutOfBoundsException.class, Rows::busy, y -> y.value(5));
        CHECK.refused("value(-1) of 5", IndexOutOfBoundsException.class, Rows::busy, y -> y.value(-1));
    }

    private static void turnedAtItsEdges() {
        CHECK.says("TURNED it is itself, when it is not below 0, else all its bits but the highest are turned");
        long[] values = {0, 1, MOST - 1, MOST, LEAST, LEAST + 1, -2, -1, Rows.bits(1.5), Rows.bits(-1.5)};
        long[] due = {0, 1, MOST - 1, MOST, -1, -2, LEAST + 1, LEAST, Rows.bits(1.5), -1 - Rows.bits(1.5)};
        DoublePacks x = Rows.of(values);
        for (int i = 0; i < values.length; i++) {
            CHECK.same("turned bits " + values[i], x.turned(i), due[i]);
            CHECK.same("turned twice a value is itself", Rows.of(due[i]).turned(0), values[i]);
        }
    }

    private static void turnedValuesRise() {
        CHECK.says("so turned values rise as the doubles do");
        double[] rising = {Double.NEGATIVE_INFINITY, -Double.MAX_VALUE, -2, -1, -Double.MIN_NORMAL, -Double.MIN_VALUE,
            -0.0, 0.0, Double.MIN_VALUE, Double.MIN_NORMAL, 1, 2, Double.MAX_VALUE, Double.POSITIVE_INFINITY};
        DoublePacks x = Rows.ofDoubles(rising);
        for (int i = 0; i < rising.length; i++) {
            CHECK.same("rank of " + rising[i], x.rank(i), i);
            if (i > 0) {
                CHECK.same(rising[i] + " is above the one before", x.turned(i - 1) < x.turned(i) ? 1 : 0, 1);
            }
        }
        CHECK.same("0 is next to -0", x.turned(7) - x.turned(6), 1);
    }

    private static void noNumbersLieAtBothEnds() {
        CHECK.says("(and bits of no number lie at both ends)");
        long endless = Rows.bits(Double.POSITIVE_INFINITY);
        DoublePacks x = Rows.of(endless + 1, MOST, endless, LEAST | endless, LEAST | endless + 1, -1);
        int[] due = {4, 5, 3, 2, 1, 0};
        for (int i = 0; i < due.length; i++) {
            CHECK.same("rank(" + i + ")", x.rank(i), due[i]);
        }
    }

    private static void promise7TurnedIndex() {
        CHECK.says("Promise 7: Value i TURNED. IndexOutOfBoundsException");
        DoublePacks x = Rows.of(-4, 5);
        CHECK.same("turned(0)", x.turned(0), LEAST + 3);
        CHECK.same("turned(1)", x.turned(1), 5);
        for (int i : new int[] {2, 3, 255, 256}) {
            CHECK.noIndex("turned(" + i + ") of 2", () -> x.turned(i));
        }
        for (int i : Rows.FAR) {
            CHECK.noIndex("turned(" + i + ")", () -> x.turned(i));
        }
        DoublePacks full = Rows.full();
        CHECK.same("turned(255) of 256", full.turned(255), 255);
        CHECK.noIndex("turned(256) of 256", () -> full.turned(256));
        CHECK.refused("turned(5) of 5", IndexOutOfBoundsException.class, Rows::busy, y -> y.turned(5));
    }

    private static void promise8Rank() {
        CHECK.says("Promise 8: How many values are below value i, both TURNED");
        DoublePacks x = Rows.of(Rows.bits(2.0), Rows.bits(-2.0), 0, LEAST, Rows.bits(2.0), Rows.bits(-3.0), -1, MOST);
        int[] due = {5, 2, 4, 3, 5, 1, 0, 7};
        for (int i = 0; i < due.length; i++) {
            CHECK.same("rank(" + i + ")", x.rank(i), due[i]);
        }
        DoublePacks near = Rows.of(8, 7, 9);
        CHECK.same("one below and one above", near.rank(0), 1);
        CHECK.same("none below", near.rank(1), 0);
        CHECK.same("all others below", near.rank(2), 2);
    }

    private static void promise8RankOfLikeOnes() {
        CHECK.says("Promise 8: How many values are below value i (like ones are not below)");
        CHECK.same("rank of one value", Rows.of(-9).rank(0), 0);
        DoublePacks like = Rows.zeros(256);
        CHECK.same("rank(0) of 256 like ones", like.rank(0), 0);
        CHECK.same("rank(255) of 256 like ones", like.rank(255), 0);
        CHECK.same("rank(255) of 256", Rows.full().rank(255), 255);
        CHECK.same("rank(0) of 256", Rows.full().rank(0), 0);
        DoublePacks zeros = Rows.of(0, LEAST);
        CHECK.same("-0 is below 0", zeros.rank(0), 1);
        CHECK.same("0 is not below -0", zeros.rank(1), 0);
    }

    private static void promise8RankIndex() {
        CHECK.says("Promise 8: IndexOutOfBoundsException");
        DoublePacks x = Rows.of(3, 2);
        CHECK.same("rank(1)", x.rank(1), 0);
        for (int i : new int[] {2, 3, 255, 256}) {
            CHECK.noIndex("rank(" + i + ") of 2", () -> x.rank(i));
        }
        for (int i : Rows.FAR) {
            CHECK.noIndex("rank(" + i + ")", () -> x.rank(i));
        }
        CHECK.noIndex("rank(256) of 256", () -> Rows.full().rank(256));
        CHECK.refused("rank(5) of 5", IndexOutOfBoundsException.class, Rows::busy, y -> y.rank(5));
    }
}
