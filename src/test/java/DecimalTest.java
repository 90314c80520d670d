import java.util.Random;

/** Promises 3, 10 and 11: decimal, power, scaled. */
public final class DecimalTest {
    private static final Check CHECK = new Check();
    private static final long BOUND = 1L << 52;

    public static void main(String[] args) {
        promise3Decimal();
        promise3Refuses();
        promise10Power();
        promise11Scaled();
        promise11Refuses();
        everyPowerAtItsEdges();
        doublesBesideDecimals();
        CHECK.end();
    }

    private static void decimal(int n, int e, double due) {
        DoublePacks x = new DoublePacks();
        CHECK.same("decimal(" + n + ", " + e + ")", x.decimal(n, e), 1);
        CHECK.same("the value of decimal(" + n + ", " + e + ")", x.value(0), Rows.bits(due));
    }

    private static void promise3Decimal() {
        decimal(0, 0, 0.0);
        decimal(0, 15, 0.0);
        decimal(1, 0, 1.0);
        decimal(-1, 0, -1.0);
        decimal(1, 1, 0.1);
        decimal(-3, 1, -0.3);
        decimal(1, 15, 1e-15);
        decimal(-1, 15, -1e-15);
        decimal(Integer.MAX_VALUE, 0, 2147483647.0);
        decimal(Integer.MIN_VALUE, 0, -2147483648.0);
        decimal(Integer.MAX_VALUE, 15, 2147483647e-15);
        decimal(Integer.MIN_VALUE, 15, -2147483648e-15);
        decimal(5, 1, 0.5);
        decimal(1000, 3, 1.0);
        Random random = new Random(3);
        for (int turn = 0; turn < 20000; turn++) {
            int n = random.nextInt() >> random.nextInt(32);
            int e = random.nextInt(16);
            decimal(n, e, n == 0 ? 0.0 : Double.parseDouble(n + "e-" + e));
        }
    }

    private static void promise3Refuses() {
        DoublePacks x = Rows.of(5);
        for (int e : new int[] {-1, 16, Integer.MAX_VALUE, Integer.MIN_VALUE}) {
            CHECK.badArgument("decimal(1, " + e + ")", () -> x.decimal(1, e));
        }
        CHECK.same("count() after refused decimals", x.count(), 1);
        DoublePacks full = Rows.full();
        CHECK.badState("decimal to 256", () -> full.decimal(1, 1));
        CHECK.badArgument("decimal to 256 by 16", () -> full.decimal(1, 16));
        CHECK.same("count() of 256 stays", full.count(), 256);
        full.clear();
        for (int i = 0; i < 256; i++) {
            CHECK.same("decimal number " + i, full.decimal(i, 2), i + 1);
        }
    }

    private static int power(long bits) {
        return Rows.of(bits).power(0);
    }

    private static void promise10Power() {
        CHECK.same("power of 0", power(0), 0);
        CHECK.same("power of -0", power(Long.MIN_VALUE), DoublePacks.NONE);
        CHECK.same("power of 1", power(Rows.bits(1)), 0);
        CHECK.same("power of -0.5", power(Rows.bits(-0.5)), 1);
        CHECK.same("power of 0.125", power(Rows.bits(0.125)), 3);
        CHECK.same("power of 1e-15", power(Rows.bits(1e-15)), 15);
        CHECK.same("power of 1e-16", power(Rows.bits(1e-16)), DoublePacks.NONE);
        CHECK.same("power of 0.1 + 0.2", power(Rows.bits(0.1 + 0.2)), DoublePacks.NONE);
        CHECK.same("power of 2^52 - 1", power(Rows.bits(BOUND - 1)), 0);
        CHECK.same("power of 2^52", power(Rows.bits(BOUND)), DoublePacks.NONE);
        CHECK.same("power of 1 - 2^52", power(Rows.bits(1 - BOUND)), 0);
        CHECK.same("power of -2^52", power(Rows.bits(-BOUND)), DoublePacks.NONE);
        CHECK.same("power of 2^51 + 0.5", power(Rows.bits(BOUND / 2 + 0.5)), DoublePacks.NONE);
        CHECK.same("power of an eighth below 2^48", power(Rows.bits((1L << 48) - 0.125)), DoublePacks.NONE);
        CHECK.same("power of the least double", power(1), DoublePacks.NONE);
        CHECK.same("power of the greatest double", power(Rows.bits(Double.MAX_VALUE)), DoublePacks.NONE);
        CHECK.same("power of infinity", power(Rows.bits(Double.POSITIVE_INFINITY)), DoublePacks.NONE);
        CHECK.same("power of no number", power(Rows.bits(Double.NaN)), DoublePacks.NONE);
        CHECK.same("power of all ones", power(-1), DoublePacks.NONE);
        DoublePacks x = Rows.of(1, 2);
        for (int i : new int[] {2, -1, Integer.MAX_VALUE, Integer.MIN_VALUE}) {
            CHECK.noIndex("power(" + i + ")", () -> x.power(i));
        }
    }

    private static void promise11Scaled() {
        DoublePacks x = Rows.ofDoubles(-12.5, 0.0, BOUND - 1, 450359962737.0496, 0.3);
        CHECK.same("scaled -12.5 by 1", x.scaled(0, 1), -125);
        CHECK.same("scaled -12.5 by 14", x.scaled(0, 14), -1250000000000000L);
        CHECK.same("scaled 0 by 0", x.scaled(1, 0), 0);
        CHECK.same("scaled 0 by 15", x.scaled(1, 15), 0);
        CHECK.same("scaled 2^52 - 1 by 0", x.scaled(2, 0), BOUND - 1);
        CHECK.thrown("scaled 2^52 - 1 by 1", ArithmeticException.class, () -> x.scaled(2, 1));
        CHECK.thrown("scaled 2^52 / 10^4 by 4", ArithmeticException.class, () -> x.scaled(3, 4));
        CHECK.same("scaled 0.3 by 15", x.scaled(4, 15), 300000000000000L);
    }

    private static void promise11Refuses() {
        DoublePacks x = Rows.ofDoubles(-12.5, -0.0, Double.NaN);
        CHECK.thrown("scaled -12.5 by 0", ArithmeticException.class, () -> x.scaled(0, 0));
        CHECK.thrown("scaled -12.5 by 15", ArithmeticException.class, () -> x.scaled(0, 15));
        CHECK.thrown("scaled -0 by 0", ArithmeticException.class, () -> x.scaled(1, 0));
        CHECK.thrown("scaled no number", ArithmeticException.class, () -> x.scaled(2, 3));
        CHECK.badArgument("scaled by 16", () -> x.scaled(0, 16));
        CHECK.badArgument("scaled by -1", () -> x.scaled(1, -1));
        CHECK.badArgument("scaled by the least int", () -> x.scaled(2, Integer.MIN_VALUE));
        CHECK.noIndex("scaled(3, 0)", () -> x.scaled(3, 0));
        CHECK.noIndex("scaled(-1, 0)", () -> x.scaled(-1, 0));
        CHECK.noIndex("scaled(3, 16): the index is named first", () -> x.scaled(3, 16));
    }

    /** Whole numbers at both ends of what may be, and beside powers of two and ten, by each e. */
    private static void everyPowerAtItsEdges() {
        for (int e = 0; e <= 15; e++) {
            for (int bit = 0; bit <= 52; bit++) {
                for (long off = -3; off <= 3; off++) {
                    askScaled((1L << bit) + off, e);
                }
            }
            for (long ten = 1; ten < BOUND; ten *= 10) {
                askScaled(ten - 1, e);
                askScaled(-ten, e);
                askScaled(ten + 1, e);
            }
        }
    }

    private static void askScaled(long k, int e) {
        if (Math.abs(k) >= BOUND) {
            return;
        }
        long bits = Model.nearest(k, e);
        DoublePacks x = Rows.of(bits);
        CHECK.same("scaled " + k + " by " + e, x.scaled(0, e), k);
        CHECK.same("power of " + k + " by " + e, x.power(0), Model.power(bits));
    }

    /** The doubles next to decimal ones: those of large k have hardly room between them. */
    private static void doublesBesideDecimals() {
        Random random = new Random(11);
        for (int turn = 0; turn < 3000; turn++) {
            int e = random.nextInt(16);
            long k = random.nextInt(3) == 0 ? BOUND - 1 - random.nextInt(1000) : random.nextLong() >>> 12 + random.nextInt(20);
            for (int off = -2; off <= 2; off++) {
                long bits = Model.nearest(k, e) + off;
                DoublePacks x = Rows.of(bits);
                CHECK.same("power of bits " + bits, x.power(0), Model.power(bits));
                Long due = Model.scaled(bits, e);
                if (due == null) {
                    CHECK.thrown("scaled bits " + bits, ArithmeticException.class, () -> x.scaled(0, e));
                } else {
                    CHECK.same("scaled bits " + bits + " by " + e, x.scaled(0, e), due);
                }
            }
        }
    }
}
