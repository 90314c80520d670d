import java.math.BigDecimal;
import java.math.BigInteger;
import java.util.ArrayList;
import java.util.List;

/** The document written a second time, plainly, on texts of bits and with the numbers of the Java library. */
final class Model {
    private static final BigInteger BOUND = BigInteger.ONE.shiftLeft(52);

    private Model() {
    }

    static long turned(long bits) {
        return bits >= 0 ? bits : Long.MIN_VALUE | ~bits;
    }

    /** Both numbers are doubles without loss, so that the machine's division is the nearest one. */
    static long nearest(long k, int e) {
        return k == 0 ? 0 : Double.doubleToRawLongBits((double) k / BigInteger.TEN.pow(e).doubleValue());
    }

    /** SCALED k, or null. */
    static Long scaled(long bits, int e) {
        if (bits == 0) {
            return 0L;
        }
        double d = Double.longBitsToDouble(bits);
        if (Double.isNaN(d) || Double.isInfinite(d) || d == 0) {
            return null;
        }
        BigInteger about = new BigDecimal(d).movePointRight(e).toBigInteger();
        Long best = null;
        for (int off = -2; off <= 2; off++) {
            BigInteger k = about.add(BigInteger.valueOf(off));
            boolean allowed = k.abs().compareTo(BOUND) < 0;
            if (allowed && nearest(k.longValue(), e) == bits && (best == null || Math.abs(best) > k.abs().longValue())) {
                best = k.longValue();
            }
        }
        return best;
    }

    static int power(long bits) {
        for (int e = 0; e <= 15; e++) {
            if (scaled(bits, e) != null) {
                return e;
            }
        }
        return -1;
    }

    static long foretold(List<Long> row, int i, int kind, int s) {
        switch (kind) {
            case 1:
                return at(row, i - 1);
            case 2:
                return at(row, i - s);
            case 3:
                return turned(2 * turned(at(row, i - 1)) - turned(at(row, i - 2)));
            case 4:
                return table(row, i, false);
            default:
                return at(row, i - 1) + table(row, i, true);
        }
    }

    private static long at(List<Long> row, int i) {
        return i < 0 ? 0 : row.get(i);
    }

    private static long table(List<Long> row, int i, boolean steps) {
        long[] table = new long[64];
        int place = 0;
        for (int j = 0; j < i; j++) {
            long entry = steps ? at(row, j) - at(row, j - 1) : at(row, j);
            table[place] = entry;
            place = (int) ((place * 8L ^ entry >>> 56) % 64);
        }
        return table[place];
    }

    /** What pack() makes. */
    static final class Packed {
        String bits;
        final List<Integer> ways = new ArrayList<>();
        final List<int[]> counts = new ArrayList<>();
    }

    static Packed pack(List<Long> row, int size) {
        Packed packed = new Packed();
        StringBuilder all = new StringBuilder(Rows.number(row.size(), 9) + Rows.number(size, 7));
        for (int from = 0; from < row.size(); from += size) {
            int to = Math.min(row.size(), from + size);
            int[] counts = new int[8];
            String best = null;
            int bestWay = -1;
            for (int way = 0; way < 8; way++) {
                String block = block(row, from, to, way);
                counts[way] = block == null ? -1 : block.length();
                if (block != null && (best == null || block.length() < best.length())) {
                    best = block;
                    bestWay = way;
                }
            }
            packed.ways.add(bestWay);
            packed.counts.add(counts);
            all.append(best);
        }
        while (all.length() % 8 > 0) {
            all.append('0');
        }
        packed.bits = all + Rows.check(all.toString());
        return packed;
    }

    /** A block by a way, or null. */
    static String block(List<Long> row, int from, int to, int way) {
        String head = Rows.number(way, 3);
        if (way == 0) {
            StringBuilder plain = new StringBuilder(head);
            for (int i = from; i < to; i++) {
                plain.append(Rows.number(row.get(i), 64));
            }
            return plain.toString();
        }
        if (way == 6) {
            String told = decimals(row.subList(from, to));
            return told == null ? null : head + told;
        }
        if (way == 7) {
            return head + parts(row.subList(from, to));
        }
        if (way != 2) {
            return head + rests(row, from, to, way, 1);
        }
        String best = null;
        for (int s = 1; s <= 8; s++) {
            String told = Rows.number(s - 1, 3) + rests(row, from, to, 2, s);
            best = best == null || told.length() < best.length() ? told : best;
        }
        return head + best;
    }

    private static String rests(List<Long> row, int from, int to, int kind, int s) {
        StringBuilder told = new StringBuilder();
        int first = -1;
        int last = -1;
        for (int i = from; i < to; i++) {
            String rest = Rows.number(row.get(i) ^ foretold(row, i, kind, s), 64);
            if (rest.indexOf('1') < 0) {
                told.append('0');
                continue;
            }
            int one = rest.indexOf('1');
            int end = rest.lastIndexOf('1') + 1;
            String anew = "1" + Rows.number(one, 6) + Rows.number(end - one - 1, 6) + rest.substring(one, end);
            String old = first >= 0 && one >= first && end <= last ? "0" + rest.substring(first, last) : null;
            told.append('1');
            if (old != null && old.length() <= anew.length()) {
                told.append(old);
            } else {
                told.append(anew);
                first = one;
                last = end;
            }
        }
        return told.toString();
    }

    private static String decimals(List<Long> block) {
        for (int e = 0; e <= 15; e++) {
            List<Long> numbers = new ArrayList<>();
            long before = 0;
            int width = 0;
            for (long bits : block) {
                Long k = scaled(bits, e);
                if (k == null) {
                    break;
                }
                long z = k - before;
                numbers.add(z < 0 ? -2 * z - 1 : 2 * z);
                width = Math.max(width, z == 0 ? 0 : Long.toBinaryString(numbers.get(numbers.size() - 1)).length());
                before = k;
            }
            if (numbers.size() == block.size()) {
                StringBuilder told = new StringBuilder(Rows.number(e, 4) + Rows.number(width, 6));
                for (long number : numbers) {
                    told.append(Rows.number(number, width));
                }
                return told.toString();
            }
        }
        return null;
    }

    private static String parts(List<Long> block) {
        StringBuilder told = new StringBuilder();
        int least = 52;
        for (int j = 0; j < block.size(); j++) {
            String all = Rows.number(block.get(j), 64);
            String head = all.substring(0, 12);
            if (j == 0) {
                told.append(head);
            } else if (head.equals(Rows.number(block.get(j - 1), 64).substring(0, 12))) {
                told.append('0');
            } else {
                told.append('1').append(head);
            }
            String fraction = all.substring(12);
            least = Math.min(least, 51 - fraction.lastIndexOf('1'));
        }
        told.append(Rows.number(least, 6));
        for (long bits : block) {
            told.append(Rows.number(bits, 64), 12, 64 - least);
        }
        return told.toString();
    }

    /** What open() tells of a tape. */
    static final class Opened {
        int fault = 0;
        int place = -1;
        final List<Long> row = new ArrayList<>();
    }

    private static final class Fault extends Exception {
        private static final long serialVersionUID = 1L;
        final int fault;
        final int place;

        Fault(int fault, int place) {
            super(null, null, false, false);
            this.fault = fault;
            this.place = place;
        }
    }

    static Opened open(String tape) {
        Opened opened = new Opened();
        try {
            new Reading(tape, opened.row).all();
        } catch (Fault f) {
            opened.fault = f.fault;
            opened.place = f.place;
        }
        return opened;
    }

    /** One reading of a tape. */
    private static final class Reading {
        private final String tape;
        private final List<Long> row;
        private int at = 0;

        Reading(String tape, List<Long> row) {
            this.tape = tape;
            this.row = row;
        }

        private long next(int width) throws Fault {
            if (at + width > tape.length()) {
                throw new Fault(1, tape.length());
            }
            String told = tape.substring(at, at + width);
            at += width;
            return width == 0 ? 0 : Long.parseUnsignedLong(told, 2);
        }

        void all() throws Fault {
            long values = next(9);
            if (values > 256) {
                throw new Fault(2, 0);
            }
            long size = next(7);
            if (size == 0 || size > 64) {
                throw new Fault(2, 9);
            }
            while (row.size() < values) {
                block((int) Math.min(size, values - row.size()));
            }
            while (at % 8 != 0) {
                if (next(1) == 1) {
                    throw new Fault(6, at - 1);
                }
            }
            String due = Rows.check(tape.substring(0, at));
            if (next(16) != Long.parseLong(due, 2)) {
                throw new Fault(7, at - 16);
            }
            if (at < tape.length()) {
                throw new Fault(8, at);
            }
        }

        private void block(int count) throws Fault {
            int way = (int) next(3);
            if (way == 6) {
                decimals(count);
            } else if (way == 7) {
                parts(count);
            } else if (way == 0) {
                for (int j = 0; j < count; j++) {
                    row.add(next(64));
                }
            } else {
                rests(way, count);
            }
        }

        private void rests(int way, int count) throws Fault {
            int s = way == 2 ? (int) next(3) + 1 : 0;
            int ahead = 0;
            int length = 0;
            for (int j = 0; j < count; j++) {
                long rest = 0;
                if (next(1) == 1) {
                    if (next(1) == 1) {
                        int start = at;
                        ahead = (int) next(6);
                        length = (int) next(6) + 1;
                        if (ahead + length > 64) {
                            throw new Fault(4, start);
                        }
                        rest = next(length);
                        if (tape.charAt(at - 1) == '0' || tape.charAt(at - length) == '0') {
                            throw new Fault(4, start);
                        }
                    } else if (length == 0) {
                        throw new Fault(3, at - 1);
                    } else {
                        rest = next(length);
                    }
                    rest <<= 64 - ahead - length;
                }
                row.add(rest ^ foretold(row, row.size(), way, s));
            }
        }

        private void decimals(int count) throws Fault {
            int e = (int) next(4);
            int width = (int) next(6);
            if (width > 54) {
                throw new Fault(5, at - 6);
            }
            BigInteger k = BigInteger.ZERO;
            for (int j = 0; j < count; j++) {
                long number = next(width);
                k = k.add(BigInteger.valueOf(number % 2 == 0 ? number / 2 : -(number + 1) / 2));
                if (k.abs().compareTo(BOUND) >= 0) {
                    throw new Fault(5, at - width);
                }
                row.add(nearest(k.longValue(), e));
            }
        }

        private void parts(int count) throws Fault {
            List<Long> heads = new ArrayList<>();
            for (int j = 0; j < count; j++) {
                heads.add(j > 0 && next(1) == 0 ? heads.get(j - 1) : next(12));
            }
            int tail = (int) next(6);
            if (tail > 52) {
                throw new Fault(5, at - 6);
            }
            for (long head : heads) {
                row.add((head << 52) + (next(52 - tail) << tail));
            }
        }
    }
}
