import java.util.Random;
import java.util.function.LongSupplier;

/** Calls of all kinds with arguments of all kinds: only what the document names is ever thrown, by a throw of its own. */
public final class WildCallsTest {
    private static final Check CHECK = new Check();
    private static final Random RANDOM = new Random(512);
    private static final int[] EDGES = {
        Integer.MIN_VALUE, -1, 0, 1, 2, 5, 6, 7, 8, 9, 15, 16, 63, 64, 65, 255, 256, 257, 3999, 4000, Integer.MAX_VALUE
    };

    public static void main(String[] args) {
        for (int run = 0; run < 1500; run++) {
            DoublePacks x = new DoublePacks();
            for (int k = 0; k < 512; k++) {
                int kind = RANDOM.nextInt(30);
                ask("run " + run + ", call " + k + ", kind " + kind, kind, x);
            }
        }
        CHECK.end();
    }

    private static int wild() {
        int kind = RANDOM.nextInt(10);
        return kind == 0 ? RANDOM.nextInt() : kind < 4 ? EDGES[RANDOM.nextInt(EDGES.length)] : RANDOM.nextInt(20);
    }

    private static long wildLong() {
        return RANDOM.nextBoolean() ? RANDOM.nextLong() : Rows.bits(wild() / 100.0);
    }

    private static void ask(String name, int kind, DoublePacks x) {
        int i = wild();
        int j = wild();
        int k = wild();
        long w = wildLong();
        LongSupplier[] calls = {
            () -> x.add(w), () -> x.decimal(i, j), x::count, () -> RANDOM.nextInt(9) == 0 ? x.clear() : 0,
            () -> x.value(i), () -> x.turned(i), () -> x.rank(i), () -> x.foretold(i, j, k), () -> x.power(i),
            () -> x.scaled(i, j), () -> x.pack(i), x::blocks, () -> x.way(i), () -> x.bits(i, j), x::size,
            () -> x.out(i), () -> x.feed(w, i), () -> x.cut(i), x::turn, () -> x.change(i, j), x::open, x::place
        };
        String[] due = {
            "S", "AS", "", "", "I", "I", "I", "IA", "I", "IAR", "A", "", "I", "IA", "", "I", "AS", "A", "", "IA", "", ""
        };
        int own = kind < calls.length ? kind : kind % 2;
        String got = thrownBy(calls[own]);
        CHECK.same(name + " threw " + got, due[own].contains(got) ? 1 : 0, 1);
    }

    /** A letter for what the class throws itself; the class's name for all else. */
    private static String thrownBy(LongSupplier call) {
        try {
            call.getAsLong();
            return "";
        } catch (RuntimeException e) {
            boolean byItself = e.getStackTrace()[0].getClassName().startsWith("DoublePacks");
            Class<?> thrown = e.getClass();
            if (thrown == IllegalStateException.class) {
                return "S";
            } else if (thrown == IllegalArgumentException.class) {
                return "A";
            } else if (thrown == IndexOutOfBoundsException.class && byItself) {
                return "I";
            } else if (thrown == ArithmeticException.class && !"/ by zero".equals(e.getMessage())) {
                return "R";
            }
            return thrown.getName();
        }
    }
}
