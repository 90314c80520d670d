/** Promises 18 to 21: feed, cut, turn, change; THE TAPE. */
public final class TapeTest {
    private static final Check CHECK = new Check();
    private static final long WORD = 0xF122334455667788L;

    public static void main(String[] args) {
        promise18Feed();
        promise18HowManyAtOnce();
        promise18UpTo4000();
        promise18JustTooMany();
        promise18WhichComesFirst();
        promise19Cut();
        promise19HowManyStay();
        promise19Refused();
        promise20Turn();
        promise20NothingPacked();
        promise20OfALongTape();
        promise21Change();
        promise21Index();
        promise21By();
        promise21WhichComesFirst();
        CHECK.end();
    }

    private static void tapeIs(String name, DoublePacks x, int... due) {
        for (int i = 0; i < due.length; i++) {
            CHECK.same(name + ": byte " + i, x.change(i, 0), due[i]);
        }
        CHECK.noIndex(name + ": byte " + due.length, () -> x.change(due.length, 0));
    }

    /** 8 bytes at once, as often as there is room: up to 499 calls, so few are left. */
    private static DoublePacks fed(int bytes) {
        DoublePacks x = new DoublePacks();
        for (int k = 0; k < bytes / 8; k++) {
            x.feed(WORD, 8);
        }
        if (bytes % 8 > 0) {
            x.feed(WORD, bytes % 8);
        }
        return x;
    }

    private static void promise18Feed() {
        CHECK.says("Promise 18: The n lowest bytes of w, the highest of them first, come behind THE TAPE");
        DoublePacks x = new DoublePacks();
        CHECK.same("feed one", x.feed(WORD, 1), 1);
        CHECK.same("feed three", x.feed(WORD, 3), 4);
        CHECK.same("feed eight", x.feed(WORD, 8), 12);
        tapeIs("fed", x, 0x88, 0x66, 0x77, 0x88, 0xF1, 0x22, 0x33, 0x44, 0x55, 0x66, 0x77, 0x88);
        int[] bytes = {0xF1, 0x22, 0x33, 0x44, 0x55, 0x66, 0x77, 0x88};
        for (int n = 1; n <= 8; n++) {
            DoublePacks y = new DoublePacks();
            CHECK.same("feed " + n, y.feed(WORD, n), n);
            tapeIs("fed " + n, y, java.util.Arrays.copyOfRange(bytes, 8 - n, 8));
        }
        DoublePacks z = new DoublePacks();
        z.feed(-1, 2);
        z.feed(0, 2);
        tapeIs("bits all 1, bits all 0", z, 255, 255, 0, 0);
    }

    private static void promise18HowManyAtOnce() {
        CHECK.says("Promise 18: IllegalArgumentException: n is not 1 .. 8");
        CHECK.same("n 1", new DoublePacks().feed(5, 1), 1);
        CHECK.same("n 8", new DoublePacks().feed(5, 8), 8);
        for (int n : new int[] {0, 9, 10, 16, 64, 4000, 4001}) {
            CHECK.badArgument("n " + n + " of an empty TAPE", () -> new DoublePacks().feed(5, n));
            CHECK.refused("n " + n, IllegalArgumentException.class, Rows::busy, x -> x.feed(5, n));
        }
        for (int n : Rows.FAR) {
            CHECK.refused("n " + n, IllegalArgumentException.class, Rows::busy, x -> x.feed(5, n));
        }
    }

    private static void promise18UpTo4000() {
        CHECK.says("Promise 18: IllegalStateException: it would have more than 4000");
        DoublePacks x = new DoublePacks();
        for (int k = 1; k <= 500; k++) {
            CHECK.same("feed up to " + 8 * k, x.feed(WORD - k, 8), 8 * k);
        }
        CHECK.badState("one byte beyond 4000", () -> x.feed(0, 1));
        CHECK.badState("eight bytes beyond 4000", () -> x.feed(0, 8));
        CHECK.same("the last byte stays", x.change(3999, 0), (int) (WORD - 500) & 255);
        CHECK.noIndex("there is no byte 4000", () -> x.change(4000, 0));
        CHECK.same("cut makes room for one", x.cut(3999), 1);
        CHECK.badState("not for two", () -> x.feed(0, 2));
        CHECK.same("feed up to 4000 again", x.feed(9, 1), 4000);
        CHECK.same("the last byte again", x.change(3999, 0), 9);
    }

    private static void promise18JustTooMany() {
        CHECK.says("Promise 18: IllegalStateException: it would have more than 4000; nothing is changed");
        for (int n = 1; n <= 8; n++) {
            int own = n;
            DoublePacks above = fed(4001 - n);
            CHECK.badState(n + " up to 4001", () -> above.feed(-1, own));
            CHECK.same(n + " up to 4001: how many are there", above.cut(4001 - n), 0);
            CHECK.noIndex(n + " up to 4001: none came", () -> above.change(4001 - own, 0));
            CHECK.same(n + " up to 4001: the last one", above.change(4000 - n, 0), (int) WORD & 255);
            DoublePacks just = fed(4000 - n);
            CHECK.same(n + " up to 4000", just.feed(0x0102030405060708L, n), 4000);
            CHECK.same(n + " up to 4000: the last one", just.change(3999, 0), 8);
            DoublePacks below = fed(3999 - n);
            CHECK.same(n + " up to 3999", below.feed(0x0102030405060708L, n), 3999);
            CHECK.same("and one more", below.feed(7, 1), 4000);
        }
    }

    private static void promise18WhichComesFirst() {
        CHECK.says("Promise 18: of several that fit the one named first");
        DoublePacks x = fed(4000);
        CHECK.badArgument("n 9 of 4000", () -> x.feed(0, 9));
        CHECK.badArgument("n 0 of 4000", () -> x.feed(0, 0));
        CHECK.badArgument("n -1 of 4000", () -> x.feed(0, -1));
        CHECK.badArgument("the greatest n of 4000", () -> x.feed(0, Integer.MAX_VALUE));
        CHECK.badState("n 1 of 4000", () -> x.feed(0, 1));
        CHECK.same("how many are there", x.cut(0), 4000);
    }

    private static void promise19Cut() {
        CHECK.says("Promise 19: THE TAPE's first n bytes stay: how many went");
        DoublePacks x = new DoublePacks();
        x.feed(0x010203040506L, 6);
        CHECK.same("cut none", x.cut(6), 0);
        CHECK.same("cut one", x.cut(5), 1);
        CHECK.same("cut one more", x.cut(4), 1);
        tapeIs("what stays", x, 1, 2, 3, 4);
        CHECK.same("feed behind it", x.feed(0x77, 1), 5);
        tapeIs("what comes behind", x, 1, 2, 3, 4, 0x77);
        CHECK.same("cut all but one", x.cut(1), 4);
        CHECK.same("cut all", x.cut(0), 1);
        tapeIs("nothing", x);
        CHECK.same("feed again", x.feed(0x0908, 2), 2);
        tapeIs("what came again", x, 9, 8);
    }

    private static void promise19HowManyStay() {
        CHECK.says("Promise 19: IllegalArgumentException: it has not so many");
        DoublePacks empty = new DoublePacks();
        CHECK.same("cut(0) of none", empty.cut(0), 0);
        CHECK.badArgument("cut(1) of none", () -> empty.cut(1));
        DoublePacks five = new DoublePacks();
        five.feed(1, 5);
        CHECK.badArgument("cut(6) of 5", () -> five.cut(6));
        CHECK.badArgument("cut(7) of 5", () -> five.cut(7));
        CHECK.badArgument("cut(4000) of 5", () -> five.cut(4000));
        CHECK.same("cut(5) of 5", five.cut(5), 0);
        CHECK.same("cut(4) of 5", five.cut(4), 1);
        CHECK.badArgument("cut(5) of 4", () -> five.cut(5));
        DoublePacks most = fed(4000);
        CHECK.badArgument("cut(4001) of 4000", () -> most.cut(4001));
        CHECK.same("cut(4000) of 4000", most.cut(4000), 0);
        CHECK.same("cut(3999) of 4000", most.cut(3999), 1);
        CHECK.badArgument("cut(4000) of 3999", () -> most.cut(4000));
    }

    private static void promise19Refused() {
        CHECK.says("Promise 19: IllegalArgumentException: it has not so many, or n is below 0; nothing is changed");
        int length = Rows.busy().cut(0);
        for (int n : new int[] {length + 1, length + 2}) {
            CHECK.refused("cut(" + n + ") of " + length, IllegalArgumentException.class, Rows::busy, x -> x.cut(n));
        }
        for (int n : Rows.FAR) {
            CHECK.refused("cut(" + n + ")", IllegalArgumentException.class, Rows::busy, x -> x.cut(n));
            CHECK.badArgument("cut(" + n + ") of none", () -> new DoublePacks().cut(n));
        }
    }

    private static void promise20Turn() {
        CHECK.says("Promise 20: THE TAPE becomes OUT (which stays): how many bytes it has");
        DoublePacks x = Rows.ofDoubles(1.5, -2.25);
        int size = x.pack(2);
        CHECK.same("pack() leaves THE TAPE", x.cut(0), 0);
        CHECK.same("turn()", x.turn(), size);
        tapeIs("OUT", x, Rows.out(x));
        x.change(0, 255);
        CHECK.same("OUT stays when THE TAPE is changed", x.out(0), 1);
        x.cut(1);
        x.feed(-1, 8);
        CHECK.same("OUT stays when it grows", x.out(1), 2);
        CHECK.same("size() stays", x.size(), size);
        CHECK.same("turn() again", x.turn(), size);
        tapeIs("OUT again", x, Rows.out(x));
        x.feed(-1, 2);
        CHECK.same("in place of a longer one", x.turn(), size);
        CHECK.noIndex("of which nothing stays", () -> x.change(size, 0));
        x.clear();
        x.pack(1);
        CHECK.same("pack() leaves THE TAPE again", x.cut(size), 0);
        CHECK.same("the shortest OUT", x.turn(), 4);
        tapeIs("the shortest OUT", x, Rows.out(x));
    }

    private static void promise20NothingPacked() {
        CHECK.says("Promise 20: THE TAPE becomes OUT (nothing packed)");
        DoublePacks x = Rows.of(1, 2);
        CHECK.same("turn() of an empty TAPE", x.turn(), 0);
        x.feed(-1, 8);
        CHECK.same("turn()", x.turn(), 0);
        tapeIs("nothing", x);
        CHECK.same("open()", x.open(), 1);
        CHECK.same("THE ROW stays", x.count(), 2);
    }

    private static void promise20OfALongTape() {
        CHECK.says("Promise 20: THE TAPE becomes OUT: how many bytes it has");
        DoublePacks x = fed(4000);
        x.pack(1);
        CHECK.same("in place of 4000", x.turn(), 4);
        CHECK.noIndex("of which nothing stays", () -> x.change(4, 0));
        CHECK.same("there is room again", x.feed(0, 8), 12);
    }

    private static void promise21Change() {
        CHECK.says("Promise 21: Byte i of THE TAPE becomes it xor by (0 .. 255): what it is then");
        DoublePacks x = new DoublePacks();
        x.feed(0x00FF5AL, 3);
        CHECK.same("change(0, 255)", x.change(0, 255), 255);
        CHECK.same("change(1, 15)", x.change(1, 15), 0xF0);
        CHECK.same("change(2, 0)", x.change(2, 0), 0x5A);
        tapeIs("changed", x, 255, 0xF0, 0x5A);
        CHECK.same("change back", x.change(1, 15), 255);
        CHECK.same("change(2, 128)", x.change(2, 128), 0xDA);
        tapeIs("changed again", x, 255, 255, 0xDA);
    }

    private static void promise21Index() {
        CHECK.says("Promise 21: IndexOutOfBoundsException");
        CHECK.noIndex("change(0, 0) of none", () -> new DoublePacks().change(0, 0));
        DoublePacks x = new DoublePacks();
        x.feed(0x0102, 2);
        CHECK.same("change(0, 1) of 2", x.change(0, 1), 0);
        CHECK.same("change(1, 1) of 2", x.change(1, 1), 3);
        CHECK.noIndex("change(2, 1) of 2", () -> x.change(2, 1));
        CHECK.noIndex("change(3, 1) of 2", () -> x.change(3, 1));
        x.cut(1);
        CHECK.noIndex("change(1, 1) of 1", () -> x.change(1, 1));
        int length = Rows.busy().cut(0);
        CHECK.refused("change behind the last", IndexOutOfBoundsException.class, Rows::busy, y -> y.change(length, 1));
        for (int i : Rows.FAR) {
            CHECK.refused("change(" + i + ", 1)", IndexOutOfBoundsException.class, Rows::busy, y -> y.change(i, 1));
        }
    }

    private static void promise21By() {
        CHECK.says("Promise 21: by (0 .. 255). IllegalArgumentException");
        DoublePacks x = new DoublePacks();
        x.feed(0xA5, 1);
        CHECK.same("by 0", x.change(0, 0), 0xA5);
        CHECK.same("by 1", x.change(0, 1), 0xA4);
        CHECK.same("by 254", x.change(0, 254), 0x5A);
        CHECK.same("by 255", x.change(0, 255), 0xA5);
        for (int by : new int[] {256, 257, 511, 512}) {
            CHECK.refused("by " + by, IllegalArgumentException.class, Rows::busy, y -> y.change(0, by));
        }
        for (int by : Rows.FAR) {
            CHECK.refused("by " + by, IllegalArgumentException.class, Rows::busy, y -> y.change(0, by));
        }
    }

    private static void promise21WhichComesFirst() {
        CHECK.says("Promise 21: of several that fit the one named first");
        CHECK.noIndex("change(0, 256) of none", () -> new DoublePacks().change(0, 256));
        CHECK.noIndex("change(0, -1) of none", () -> new DoublePacks().change(0, -1));
        DoublePacks x = new DoublePacks();
        x.feed(1, 3);
        CHECK.noIndex("change(3, 256) of 3", () -> x.change(3, 256));
        CHECK.noIndex("change(-1, -1)", () -> x.change(-1, -1));
        CHECK.badArgument("change(2, 256) of 3", () -> x.change(2, 256));
    }
}
