/** Promises 1, 2 and 4 to 8: a new object, add, count, clear, value, turned, rank. */
public final class RowTest {
    private static final Check CHECK = new Check();

    public static void main(String[] args) {
        promise1NewObject();
        promise2Add();
        promise4Count();
        promise5Clear();
        promise6Value();
        promise7Turned();
        promise8Rank();
        CHECK.end();
    }

    private static void promise1NewObject() {
        DoublePacks x = new DoublePacks();
        CHECK.same("new: count()", x.count(), 0);
        CHECK.same("new: clear()", x.clear(), 0);
        CHECK.same("new: size()", x.size(), 0);
        CHECK.same("new: blocks()", x.blocks(), 0);
        CHECK.same("new: place()", x.place(), DoublePacks.NONE);
        CHECK.same("new: turn()", x.turn(), 0);
        CHECK.same("new: cut(0)", x.cut(0), 0);
        CHECK.noIndex("new: value(0)", () -> x.value(0));
        CHECK.noIndex("new: out(0)", () -> x.out(0));
        CHECK.noIndex("new: way(0)", () -> x.way(0));
        CHECK.noIndex("new: bits(0, 0)", () -> x.bits(0, 0));
        CHECK.noIndex("new: change(0, 0)", () -> x.change(0, 0));
        CHECK.badArgument("new: cut(1)", () -> x.cut(1));
        CHECK.same("NONE", DoublePacks.NONE, -1);
    }

    private static void promise2Add() {
        DoublePacks x = new DoublePacks();
        for (int i = 0; i < 256; i++) {
            CHECK.same("add number " + i, x.add(~i), i + 1);
        }
        CHECK.badState("add to 256", () -> x.add(0));
        CHECK.same("count() after a refused add", x.count(), 256);
        CHECK.same("the last value stays", x.value(255), ~255);
        x.clear();
        CHECK.same("add after clear()", x.add(7), 1);
    }

    private static void promise4Count() {
        DoublePacks x = Rows.of(1, 2, 3);
        CHECK.same("count()", x.count(), 3);
        CHECK.same("count() again", x.count(), 3);
        x.decimal(1, 1);
        CHECK.same("count() after decimal", x.count(), 4);
    }

    private static void promise5Clear() {
        DoublePacks x = Rows.of(5, -6, 7);
        x.pack(2);
        x.turn();
        int size = x.size();
        CHECK.same("clear()", x.clear(), 3);
        CHECK.same("clear() again", x.clear(), 0);
        CHECK.noIndex("value(0) after clear()", () -> x.value(0));
        CHECK.same("OUT stays", x.size(), size);
        CHECK.same("blocks stay", x.blocks(), 2);
        CHECK.same("THE TAPE stays", x.open(), 0);
        CHECK.same("and tells the row", x.value(1), -6);
        x.clear();
        for (int kind = 1; kind <= 5; kind++) {
            CHECK.same("after clear() nothing is foretold by " + kind, x.foretold(0, kind, 1), 0);
        }
        x.add(0);
        CHECK.same("the table is empty, too", x.foretold(1, 4, 0), 0);
        CHECK.same("and that of steps", x.foretold(1, 5, 0), 0);
    }

    private static void promise6Value() {
        DoublePacks x = Rows.of(Long.MIN_VALUE, Long.MAX_VALUE, -1, 0);
        CHECK.same("value(0)", x.value(0), Long.MIN_VALUE);
        CHECK.same("value(1)", x.value(1), Long.MAX_VALUE);
        CHECK.same("value(2)", x.value(2), -1);
        CHECK.same("value(3)", x.value(3), 0);
        for (int i : new int[] {4, -1, 256, Integer.MAX_VALUE, Integer.MIN_VALUE}) {
            CHECK.noIndex("value(" + i + ")", () -> x.value(i));
        }
        CHECK.same("value(255) of 256", Rows.full().value(255), 255);
    }

    private static void promise7Turned() {
        DoublePacks x = Rows.of(0, Long.MIN_VALUE, -1, Long.MAX_VALUE, Rows.bits(-1.5), Rows.bits(1.5));
        CHECK.same("turned 0", x.turned(0), 0);
        CHECK.same("turned -0", x.turned(1), -1);
        CHECK.same("turned all ones", x.turned(2), Long.MIN_VALUE);
        CHECK.same("turned highest", x.turned(3), Long.MAX_VALUE);
        CHECK.same("turned -1.5", x.turned(4), -1 - Rows.bits(1.5));
        CHECK.same("turned 1.5", x.turned(5), Rows.bits(1.5));
        for (int i : new int[] {6, -1, 256, Integer.MAX_VALUE, Integer.MIN_VALUE}) {
            CHECK.noIndex("turned(" + i + ")", () -> x.turned(i));
        }
        double[] rising = {Double.NEGATIVE_INFINITY, -2, -1, -Double.MIN_VALUE, -0.0, 0.0, Double.MIN_VALUE, 1e9};
        DoublePacks y = Rows.ofDoubles(rising);
        for (int i = 1; i < rising.length; i++) {
            CHECK.same("turned values rise at " + i, y.turned(i - 1) < y.turned(i) ? 1 : 0, 1);
        }
    }

    private static void promise8Rank() {
        DoublePacks x = Rows.of(Rows.bits(2.0), Rows.bits(-2.0), 0, Long.MIN_VALUE, Rows.bits(2.0), Rows.bits(-3.0),
                -1, Long.MAX_VALUE);
        int[] due = {5, 2, 4, 3, 5, 1, 0, 7};
        for (int i = 0; i < due.length; i++) {
            CHECK.same("rank(" + i + ")", x.rank(i), due[i]);
        }
        for (int i : new int[] {8, -1, Integer.MAX_VALUE, Integer.MIN_VALUE}) {
            CHECK.noIndex("rank(" + i + ")", () -> x.rank(i));
        }
        CHECK.same("rank(255) of 256", Rows.full().rank(255), 255);
    }
}
