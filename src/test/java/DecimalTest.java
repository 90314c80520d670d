import java.math.BigInteger;
import java.util.Random;

/** Promises 3, 10 and 11: decimal, power, scaled; NEAREST, DECIMAL and SCALED. */
public final class DecimalTest {
    private static final Check CHECK = new Check();
    private static final long BOUND = 1L << 52;
    private static final int NONE = DoublePacks.NONE;

    public static void main(String[] args) {
        promise3Decimal();
        promise3EdgesOfN();
        promise3EdgesOfE();
        promise3Refused();
        zeroIsAllBitsZero();
        belowZeroWithItsSign();
        nearestWhereItIsHardest();
        wholeNumbersBelowTheBound();
        boundByEachPower();
        promise10LeastPower();
        promise10GreatestPower();
        promise10NoneAtAll();
        promise10Index();
        promise11Scaled();
        promise11FromTheLeastPowerOn();
        promise11NotDecimal();
        promise11Refused();
        everyPowerAtItsEdges();
        doublesBesideDecimals();
        CHECK.end();
    }

    private static void decimal(int n, int e, double due) {
        DoublePacks x = new DoublePacks();
        CHECK.same("decimal(" + n + ", " + e + ")", x.decimal(n, e), 1);
        CHECK.same("the value of decimal(" + n + ", " + e + ")", x.value(0), Rows.bits(due));
    }

    private static void promise3Decimal() {
        CHECK.says("Promise 3: The double to which n / 10^e is NEAREST, as a value more: how many");
        decimal(1, 1, 0.1);
        decimal(-3, 1, -0.3);
        decimal(5, 1, 0.5);
        decimal(1000, 3, 1.0);
        decimal(314159265, 8, 3.14159265);
        Random random = new Random(3);
        for (int turn = 0; turn < 20000; turn++) {
            int n = random.nextInt() >> random.nextInt(32);
            int e = random.nextInt(16);
            decimal(n, e, n == 0 ? 0.0 : Double.parseDouble(n + "e-" + e));
        }
        DoublePacks x = Rows.of(9);
        CHECK.same("decimal behind another value", x.decimal(25, 1), 2);
        CHECK.same("the value before stays", x.value(0), 9);
        CHECK.same("the value behind", x.value(1), Rows.bits(2.5));
        CHECK.same("the tables go along", State.of(x), State.of(Rows.of(9, Rows.bits(2.5))));
    }

    private static void promise3EdgesOfN() {
        CHECK.says("Promise 3: n / 10^e (the least and the greatest n)");
        int least = Integer.MIN_VALUE;
        int most = Integer.MAX_VALUE;
        for (int n : new int[] {least, least + 1, -2, -1, 1, 2, most - 1, most}) {
            for (int e = 0; e <= 15; e++) {
                decimal(n, e, Double.parseDouble(n + "e-" + e));
            }
        }
    }

    private static void promise3EdgesOfE() {
        CHECK.says("Promise 3: IllegalArgumentException: e is not 0 .. 15");
        decimal(7, 0, 7.0);
        decimal(7, 1, 0.7);
        decimal(7, 14, 7e-14);
        decimal(7, 15, 7e-15);
        for (int e : new int[] {-1, 16, 17, 31, 32}) {
            CHECK.refused("decimal(7, " + e + ")", IllegalArgumentException.class, Rows::busy, x -> x.decimal(7, e));
            CHECK.badArgument("decimal(0, " + e + ")", () -> new DoublePacks().decimal(0, e));
        }
        for (int e : Rows.FAR) {
            CHECK.badArgument("decimal(7, " + e + ")", () -> new DoublePacks().decimal(7, e));
        }
    }

    private static void promise3Refused() {
        CHECK.says("Promise 3: IllegalStateException: there are 256");
        DoublePacks x = new DoublePacks();
        for (int i = 0; i < 256; i++) {
            CHECK.same("decimal number " + i, x.decimal(i, 2), i + 1);
        }
        CHECK.badState("decimal to 256", () -> x.decimal(1, 0));
        CHECK.same("value(255)", x.value(255), Rows.bits(2.55));
        DoublePacks almost = Rows.counted(255);
        CHECK.same("decimal to 255", almost.decimal(1, 0), 256);
        CHECK.refused("decimal(1, 0) to 256", IllegalStateException.class, Rows::full, y -> y.decimal(1, 0));
        CHECK.refused("decimal(1, 15) to 256", IllegalStateException.class, Rows::full, y -> y.decimal(1, 15));
        CHECK.says("Promise 3: of several that fit the one named first");
        CHECK.refused("decimal(1, 16) to 256", IllegalArgumentException.class, Rows::full, y -> y.decimal(1, 16));
        CHECK.refused("decimal(1, -1) to 256", IllegalArgumentException.class, Rows::full, y -> y.decimal(1, -1));
    }

    private static void zeroIsAllBitsZero() {
        CHECK.says("0 / 10^e to the bits that are all 0");
        DoublePacks x = Rows.of(0, Long.MIN_VALUE);
        for (int e = 0; e <= 15; e++) {
            decimal(0, e, 0.0);
            int by = e;
            CHECK.same("0 SCALED by " + e, x.scaled(0, e), 0);
            CHECK.notDecimal("-0 SCALED by " + e, () -> x.scaled(1, by));
        }
        CHECK.same("power of 0", x.power(0), 0);
        CHECK.same("power of -0", x.power(1), NONE);
        CHECK.same("the least above 0 is none", power(1), NONE);
        CHECK.same("the least below -0 is none", power(Long.MIN_VALUE + 1), NONE);
    }

    private static void belowZeroWithItsSign() {
        CHECK.says("below 0 with its sign");
        for (int e = 0; e <= 15; e++) {
            DoublePacks x = new DoublePacks();
            x.decimal(12345, e);
            x.decimal(-12345, e);
            CHECK.same("but for the sign they are alike, by " + e, x.value(1), x.value(0) | Long.MIN_VALUE);
            CHECK.same("SCALED by " + e, x.scaled(0, e), 12345);
            CHECK.same("SCALED below 0 by " + e, x.scaled(1, e), -12345);
            CHECK.same("their powers are alike", x.power(1), x.power(0));
        }
    }

    /**
     * Just half way between two doubles no k / 10^e lies: 5^e is odd, and k has too few bits. So the hardest ones are
     * those that are 1 / (2 5^e) away from it, to either side.
     */
    private static void nearestWhereItIsHardest() {
        CHECK.says("NEAREST to the double that lies nearest to it, of two the one whose last bit is 0");
        for (int e = 1; e <= 15; e++) {
            for (int side = 0; side <= 1; side++) {
                long k = besideHalf(e, side, BOUND);
                hardest(k, e, side, Rows.tape(Rows.packed(1, 1, "110" + Rows.number(e, 4) + "110110"
                        + Rows.number(2 * k, 54))));
                if (e <= 12) {
                    int n = (int) besideHalf(e, side, 1L << 31);
                    DoublePacks x = new DoublePacks();
                    x.decimal(n, e);
                    x.pack(1);
                    x.turn();
                    hardest(n, e, side, x);
                }
            }
        }
    }

    private static void hardest(long k, int e, int side, DoublePacks x) {
        String name = k + " / 10^" + e;
        BigInteger five = BigInteger.valueOf(5).pow(e);
        int shift = halvings(k, five);
        long due = BigInteger.valueOf(k).shiftLeft(shift).divide(five).longValue() + side - BOUND
                + ((1075L - shift - e) << 52);
        CHECK.same(name + ": open()", x.open(), 0);
        CHECK.same(name, x.value(0), due);
        CHECK.same(name + " SCALED", x.scaled(0, e), k);
        CHECK.same("not the one above " + name, x.value(0) == due + 1 ? 1 : 0, 0);
        CHECK.notDecimal("the one above " + name, () -> Rows.of(due + 1).scaled(0, e));
        CHECK.notDecimal("the one below " + name, () -> Rows.of(due - 1).scaled(0, e));
    }

    /** How far k is shifted so that over 5^e it has 53 bits. */
    private static int halvings(long k, BigInteger five) {
        int shift = 0;
        while (BigInteger.valueOf(k).shiftLeft(shift).divide(five).bitLength() < 53) {
            shift++;
        }
        return shift;
    }

    /** A k below a bound, for which k 2^shift leaves of 5^e the half of it, rounded down or up. */
    private static long besideHalf(int e, int side, long bound) {
        BigInteger five = BigInteger.valueOf(5).pow(e);
        int bits = 1;
        while (five.shiftLeft(bits + 1).compareTo(BigInteger.valueOf(bound)) < 0) {
            bits++;
        }
        int shift = 53 - bits;
        BigInteger least = five.shiftLeft(bits - 1);
        BigInteger left = five.shiftRight(1).add(BigInteger.valueOf(side));
        BigInteger due = left.multiply(BigInteger.TWO.pow(shift).modInverse(five)).mod(five);
        return least.add(due.subtract(least).mod(five)).longValueExact();
    }

    private static int power(long bits) {
        return Rows.of(bits).power(0);
    }

    private static int power(double d) {
        return power(Rows.bits(d));
    }

    private static void wholeNumbersBelowTheBound() {
        CHECK.says("k whole, without sign below 2^52");
        for (int sign : new int[] {1, -1}) {
            double below = sign * (double) (BOUND - 1);
            double at = sign * (double) BOUND;
            double above = sign * (double) (BOUND + 1);
            CHECK.same("power of " + below, power(below), 0);
            CHECK.same("power of " + at, power(at), NONE);
            CHECK.same("power of " + above, power(above), NONE);
            DoublePacks x = Rows.ofDoubles(below, at, above);
            CHECK.same("SCALED of " + below, x.scaled(0, 0), sign * (BOUND - 1));
            CHECK.notDecimal(below + " by 1", () -> x.scaled(0, 1));
            CHECK.notDecimal("SCALED of " + at, () -> x.scaled(1, 0));
            CHECK.notDecimal("SCALED of " + above, () -> x.scaled(2, 0));
            CHECK.notDecimal("SCALED of " + at + " by 15", () -> x.scaled(1, 15));
        }
    }

    private static void boundByEachPower() {
        CHECK.says("k whole, without sign below 2^52, e 0 .. 15");
        for (int e = 0; e <= 15; e++) {
            int by = e;
            for (int sign : new int[] {1, -1}) {
                DoublePacks x = Rows.of(Model.nearest(sign * (BOUND - 2), e), Model.nearest(sign * (BOUND - 1), e),
                        Model.nearest(sign * BOUND, e), Model.nearest(sign * (BOUND + 1), e));
                CHECK.same("2^52 - 2 by " + e, x.scaled(0, e), sign * (BOUND - 2));
                CHECK.same("2^52 - 1 by " + e, x.scaled(1, e), sign * (BOUND - 1));
                CHECK.notDecimal("2^52 by " + e, () -> x.scaled(2, by));
                CHECK.notDecimal("2^52 + 1 by " + e, () -> x.scaled(3, by));
            }
        }
    }

    private static void promise10LeastPower() {
        CHECK.says("Promise 10: The least e by which value i is DECIMAL");
        CHECK.same("power of 1", power(1.0), 0);
        CHECK.same("power of 10", power(10.0), 0);
        CHECK.same("power of -0.5", power(-0.5), 1);
        CHECK.same("power of 0.125", power(0.125), 3);
        CHECK.same("power of 2.50", power(2.50), 1);
        CHECK.same("power of 100.01", power(100.01), 2);
        for (int e = 0; e <= 15; e++) {
            for (int n : new int[] {1, -1, 3, -17, 1234567891}) {
                DoublePacks x = new DoublePacks();
                x.decimal(n, e);
                CHECK.same("power of " + n + " / 10^" + e, x.power(0), e);
            }
        }
    }

    private static void promise10GreatestPower() {
        CHECK.says("e 0 .. 15");
        CHECK.same("power of 1e-14", power(1e-14), 14);
        CHECK.same("power of 1e-15", power(1e-15), 15);
        CHECK.same("power of -1e-15", power(-1e-15), 15);
        CHECK.same("power of 1e-16", power(1e-16), NONE);
        CHECK.same("power of 1.000000000000001", power(1.000000000000001), 15);
        CHECK.same("power of 4.503599627370495", power(4.503599627370495), 15);
        CHECK.same("power of 4.503599627370496", power(4.503599627370496), NONE);
        CHECK.same("power of 4.503599627370497", power(4.503599627370497), NONE);
        CHECK.same("power of -4.503599627370495", power(-4.503599627370495), 15);
        CHECK.same("power of -4.503599627370496", power(-4.503599627370496), NONE);
    }

    private static void promise10NoneAtAll() {
        CHECK.says("Promise 10: NONE: there is none");
        CHECK.same("power of 0.1 + 0.2", power(0.1 + 0.2), NONE);
        CHECK.same("power of pi", power(Math.PI), 15);
        CHECK.same("power of 1 / 3", power(1 / 3.0), NONE);
        CHECK.same("power of 2^51 - 0.5", power(BOUND / 2 - 0.5), NONE);
        CHECK.same("power of 2^51 + 0.5", power(BOUND / 2 + 0.5), NONE);
        CHECK.same("power of 2^48 + 0.1", power((1L << 48) + 0.1), 1);
        CHECK.same("power of an eighth below 2^48", power((1L << 48) - 0.125), NONE);
        CHECK.same("power of 1e300", power(1e300), NONE);
        for (long bits : Rows.ODD_BITS) {
            if (bits != 0) {
                CHECK.same("power of bits " + Long.toHexString(bits), power(bits), NONE);
            }
        }
    }

    private static void promise10Index() {
        CHECK.says("Promise 10: IndexOutOfBoundsException");
        DoublePacks x = Rows.ofDoubles(0.5, 0.25);
        CHECK.same("power(0)", x.power(0), 1);
        CHECK.same("power(1)", x.power(1), 2);
        for (int i : new int[] {2, 3, 255, 256}) {
            CHECK.noIndex("power(" + i + ") of 2", () -> x.power(i));
        }
        for (int i : Rows.FAR) {
            CHECK.noIndex("power(" + i + ")", () -> x.power(i));
        }
        CHECK.same("power(255) of 256", Rows.zeros(256).power(255), 0);
        CHECK.noIndex("power(256) of 256", () -> Rows.zeros(256).power(256));
        CHECK.refused("power(5) of 5", IndexOutOfBoundsException.class, Rows::busy, y -> y.power(5));
    }

    private static void promise11Scaled() {
        CHECK.says("Promise 11: SCALED k of value i by e, with its sign");
        DoublePacks x = Rows.ofDoubles(-12.5, 0.3, 1e-15, -1e-15, 45.0);
        CHECK.same("-12.5 by 1", x.scaled(0, 1), -125);
        CHECK.same("-12.5 by 14", x.scaled(0, 14), -1250000000000000L);
        CHECK.same("0.3 by 15", x.scaled(1, 15), 300000000000000L);
        CHECK.same("1e-15 by 15", x.scaled(2, 15), 1);
        CHECK.same("-1e-15 by 15", x.scaled(3, 15), -1);
        CHECK.same("45 by 0", x.scaled(4, 0), 45);
        CHECK.same("45 by 13", x.scaled(4, 13), 450000000000000L);
    }

    private static void promise11FromTheLeastPowerOn() {
        CHECK.says("Promise 11: ArithmeticException: it is not DECIMAL by e");
        DoublePacks x = Rows.ofDoubles(0.125, 4.0, 5.0, -12.5, 45.0, 46.0);
        CHECK.notDecimal("0.125 by 2", () -> x.scaled(0, 2));
        CHECK.same("0.125 by 3", x.scaled(0, 3), 125);
        CHECK.same("0.125 by 4", x.scaled(0, 4), 1250);
        CHECK.same("4 by 15", x.scaled(1, 15), 4000000000000000L);
        CHECK.same("5 by 14", x.scaled(2, 14), 500000000000000L);
        CHECK.notDecimal("5 by 15", () -> x.scaled(2, 15));
        CHECK.notDecimal("-12.5 by 0", () -> x.scaled(3, 0));
        CHECK.notDecimal("-12.5 by 15", () -> x.scaled(3, 15));
        CHECK.same("45 by 14", x.scaled(4, 14), 4500000000000000L);
        CHECK.notDecimal("46 by 14", () -> x.scaled(5, 14));
    }

    private static void promise11NotDecimal() {
        CHECK.says("Promise 11: ArithmeticException: it is not DECIMAL by e");
        for (long bits : Rows.ODD_BITS) {
            DoublePacks x = Rows.of(bits);
            for (int e = 0; e <= 15 && bits != 0; e++) {
                int by = e;
                CHECK.notDecimal("bits " + Long.toHexString(bits) + " by " + e, () -> x.scaled(0, by));
            }
        }
        // The values are 1.5, 2.25, -0, 1 / 3 and -7.7.
        CHECK.refused("1.5 by 0", ArithmeticException.class, Rows::busy, x -> x.scaled(0, 0));
        CHECK.refused("1 / 3 by 15", ArithmeticException.class, Rows::busy, x -> x.scaled(3, 15));
    }

    private static void promise11Refused() {
        CHECK.says("Promise 11: IndexOutOfBoundsException. IllegalArgumentException: e is not 0 .. 15");
        DoublePacks x = Rows.ofDoubles(2.0, Double.NaN);
        CHECK.same("2 by 0", x.scaled(0, 0), 2);
        CHECK.same("2 by 15", x.scaled(0, 15), 2000000000000000L);
        CHECK.badArgument("2 by -1", () -> x.scaled(0, -1));
        CHECK.badArgument("2 by 16", () -> x.scaled(0, 16));
        CHECK.noIndex("scaled(2, 0) of 2", () -> x.scaled(2, 0));
        CHECK.noIndex("scaled(256, 0) of 256", () -> Rows.zeros(256).scaled(256, 0));
        for (int wrong : Rows.FAR) {
            CHECK.noIndex("scaled(" + wrong + ", 0)", () -> x.scaled(wrong, 0));
            CHECK.badArgument("scaled(0, " + wrong + ")", () -> x.scaled(0, wrong));
        }
        CHECK.refused("scaled(5, 0) of 5", IndexOutOfBoundsException.class, Rows::busy, y -> y.scaled(5, 0));
        CHECK.refused("scaled(0, 16)", IllegalArgumentException.class, Rows::busy, y -> y.scaled(0, 16));
        CHECK.says("Promise 11: of several that fit the one named first");
        CHECK.noIndex("scaled(2, 16)", () -> x.scaled(2, 16));
        CHECK.noIndex("scaled(-1, -1)", () -> x.scaled(-1, -1));
        CHECK.badArgument("no number by 16", () -> x.scaled(1, 16));
        CHECK.badArgument("no number by -1", () -> x.scaled(1, -1));
        CHECK.notDecimal("no number by 15", () -> x.scaled(1, 15));
    }

    /** Whole numbers at both ends of what may be, and beside powers of two and ten, by each e. */
    private static void everyPowerAtItsEdges() {
        CHECK.says("A value is DECIMAL by e, if some k / 10^e is NEAREST to it; its SCALED k is the one of least size");
        for (int e = 0; e <= 15; e++) {
            for (int bit = 0; bit <= 52; bit++) {
                for (long off = -3; off <= 3; off++) {
                    askScaled((1L << bit) + off, e);
                }
            }
            for (long ten = 1; ten < BOUND; ten *= 10) {
                askScaled(ten - 1, e);
                askScaled(-ten, e);
                askScaled(ten + 1, e);
            }
        }
    }

    private static void askScaled(long k, int e) {
        if (Math.abs(k) >= BOUND) {
            return;
        }
        long bits = Model.nearest(k, e);
        DoublePacks x = Rows.of(bits);
        CHECK.same("scaled " + k + " by " + e, x.scaled(0, e), k);
        CHECK.same("power of " + k + " by " + e, x.power(0), Model.power(bits));
    }

    /** The doubles next to decimal ones: those of large k have hardly room between them. */
    private static void doublesBesideDecimals() {
        Random random = new Random(11);
        for (int turn = 0; turn < 3000; turn++) {
            int e = random.nextInt(16);
            boolean atBound = random.nextInt(3) == 0;
            long k = atBound ? BOUND - 1 - random.nextInt(1000) : random.nextLong() >>> 12 + random.nextInt(20);
            for (int off = -2; off <= 2; off++) {
                askBeside(Model.nearest(k, e) + off, e);
            }
        }
    }

    private static void askBeside(long bits, int e) {
        DoublePacks x = Rows.of(bits);
        CHECK.same("power of bits " + bits, x.power(0), Model.power(bits));
        Long due = Model.scaled(bits, e);
        if (due == null) {
            CHECK.notDecimal("scaled bits " + bits, () -> x.scaled(0, e));
        } else {
            CHECK.same("scaled bits " + bits + " by " + e, x.scaled(0, e), due);
        }
    }
}
