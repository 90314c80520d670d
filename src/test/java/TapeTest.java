/** Promises 18 to 21: feed, cut, turn, change. */
public final class TapeTest {
    private static final Check CHECK = new Check();
    private static final int[] WRONG = {-1, Integer.MAX_VALUE, Integer.MIN_VALUE};

    public static void main(String[] args) {
        promise18Feed();
        promise18Refuses();
        promise19Cut();
        promise20Turn();
        promise21Change();
        CHECK.end();
    }

    private static void tapeIs(String name, DoublePacks x, int... due) {
        for (int i = 0; i < due.length; i++) {
            CHECK.same(name + ": byte " + i, x.change(i, 0), due[i]);
        }
        CHECK.noIndex(name + ": byte " + due.length, () -> x.change(due.length, 0));
    }

    private static void promise18Feed() {
        DoublePacks x = new DoublePacks();
        CHECK.same("feed one", x.feed(0x1122334455667788L, 1), 1);
        CHECK.same("feed three", x.feed(0x1122334455667788L, 3), 4);
        CHECK.same("feed eight", x.feed(0xF122334455667788L, 8), 12);
        tapeIs("fed", x, 0x88, 0x66, 0x77, 0x88, 0xF1, 0x22, 0x33, 0x44, 0x55, 0x66, 0x77, 0x88);
    }

    private static void promise18Refuses() {
        DoublePacks x = new DoublePacks();
        x.feed(5, 1);
        for (int n : new int[] {0, 9, 4000, -1, Integer.MAX_VALUE, Integer.MIN_VALUE}) {
            CHECK.badArgument("feed(1, " + n + ")", () -> x.feed(1, n));
        }
        tapeIs("a refused feed changes nothing", x, 5);
        x.cut(0);
        for (int k = 1; k < 500; k++) {
            CHECK.same("feed up to " + 8 * k, x.feed(-1, 8), 8 * k);
        }
        CHECK.same("feed up to 3997", x.feed(-1, 5), 3997);
        CHECK.badState("feed up to 4001", () -> x.feed(-1, 4));
        CHECK.badState("feed up to 4005", () -> x.feed(-1, 8));
        CHECK.badArgument("the number is named first", () -> x.feed(-1, 9));
        CHECK.same("feed up to 4000", x.feed(0x010203, 3), 4000);
        CHECK.same("the last byte", x.change(3999, 0), 3);
        CHECK.badState("feed beyond 4000", () -> x.feed(0, 1));
        CHECK.same("cut makes room", x.cut(3999), 1);
        CHECK.same("feed again", x.feed(9, 1), 4000);
        CHECK.same("the last byte again", x.change(3999, 0), 9);
    }

    private static void promise19Cut() {
        DoublePacks x = new DoublePacks();
        x.feed(0x010203040506L, 6);
        CHECK.same("cut none", x.cut(6), 0);
        CHECK.same("cut two", x.cut(4), 2);
        tapeIs("what stays", x, 1, 2, 3, 4);
        CHECK.badArgument("cut(5) of 4", () -> x.cut(5));
        for (int n : WRONG) {
            CHECK.badArgument("cut(" + n + ")", () -> x.cut(n));
        }
        CHECK.same("feed behind it", x.feed(0x77, 1), 5);
        tapeIs("what comes behind", x, 1, 2, 3, 4, 0x77);
        CHECK.same("cut all", x.cut(0), 5);
        CHECK.same("cut all again", x.cut(0), 0);
    }

    private static void promise20Turn() {
        DoublePacks x = Rows.ofDoubles(1.5, -2.25);
        x.feed(-1, 8);
        CHECK.same("turn() with nothing packed", x.turn(), 0);
        tapeIs("nothing", x);
        int size = x.pack(2);
        CHECK.same("pack() leaves THE TAPE", x.cut(0), 0);
        for (int k = 0; k < 5; k++) {
            x.feed(-1, 8);
        }
        CHECK.same("turn()", x.turn(), size);
        tapeIs("OUT", x, Rows.out(x));
        x.change(0, 255);
        CHECK.same("OUT stays", x.out(0), 1);
        CHECK.same("size() stays", x.size(), size);
        CHECK.same("turn() again", x.turn(), size);
        CHECK.same("THE TAPE is OUT again", x.change(0, 0), 1);
    }

    private static void promise21Change() {
        DoublePacks x = new DoublePacks();
        x.feed(0x00FF5AL, 3);
        CHECK.same("change(0, 255)", x.change(0, 255), 255);
        CHECK.same("change(1, 15)", x.change(1, 15), 0xF0);
        CHECK.same("change(2, 0)", x.change(2, 0), 0x5A);
        tapeIs("changed", x, 255, 0xF0, 0x5A);
        CHECK.same("change back", x.change(1, 15), 255);
        CHECK.noIndex("change(3, 1)", () -> x.change(3, 1));
        CHECK.noIndex("change(3, 256): the index is named first", () -> x.change(3, 256));
        CHECK.badArgument("change(0, 256)", () -> x.change(0, 256));
        for (int wrong : WRONG) {
            CHECK.noIndex("change(" + wrong + ", 1)", () -> x.change(wrong, 1));
            CHECK.badArgument("change(0, " + wrong + ")", () -> x.change(0, wrong));
        }
        tapeIs("refused changes change nothing", x, 255, 255, 0x5A);
    }
}
