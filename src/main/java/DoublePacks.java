import java.util.Arrays;

/**
 * Rows of doubles by their bits, packed without loss, block by block, and packed rows read up to the first bit that
 * can't be. The words in capitals are those of the document.
 */
public final class DoublePacks {
    public static final int NONE = -1;

    private static final int MOST_VALUES = 256;
    private static final int MOST_SIZE = 64;
    private static final int MOST_POWER = 15;
    private static final int MOST_STRIDE = 8;
    private static final int MOST_TAPE = 4000;
    // Way 0 keeps every block at 3 + 64 bits a value or less: 2 bytes ahead, 256 * 67 bits, 2 bytes of CHECK.
    private static final int MOST_OUT = 2148;

    private static final int WAYS = 8;
    private static final int PLAIN = 0;
    private static final int LAST = 1;
    private static final int STRIDE = 2;
    private static final int LINE = 3;
    private static final int TABLE = 4;
    private static final int STEPS = 5;
    private static final int DECIMAL = 6;
    private static final int PARTS = 7;

    private static final long SIGN = 1L << 63;
    private static final int BEYOND_ANY_BLOCK = 1 << 20;

    private static final int COUNT_BITS = 9;
    private static final int SIZE_BITS = 7;
    private static final int WAY_BITS = 3;
    private static final int STRIDE_BITS = 3;
    private static final int WINDOW_BITS = 6;
    private static final int POWER_BITS = 4;
    private static final int WIDTH_BITS = 6;
    private static final int MOST_WIDTH = 54;
    private static final int HEAD_BITS = 12;
    private static final int TAIL_BITS = 6;
    private static final int FRACTION_BITS = 52;
    private static final int CHECK_BITS = 16;

    private static final int TOO_SHORT = 1;
    private static final int BAD_START = 2;
    private static final int NO_WINDOW = 3;
    private static final int BAD_WINDOW = 4;
    private static final int BAD_NUMBER = 5;
    private static final int BAD_PADDING = 6;
    private static final int BAD_CHECK = 7;
    private static final int TOO_LONG = 8;

    // The row that the face tells of, and a second one that open() fills: they change places when it tells no FAULT.
    private Row row;
    private Row draft;
    private final Out out;
    private final Tape tape;
    private final Decoder decoder;

    public DoublePacks() {
        row = new Row();
        draft = new Row();
        out = new Out();
        tape = new Tape();
        decoder = new Decoder();
    }

    public int add(long bits) throws IllegalStateException {
        requireRoom();
        row.append(bits);
        return row.length;
    }

    public int decimal(int n, int e) throws IllegalArgumentException, IllegalStateException {
        requirePower(e);
        requireRoom();
        row.append(Decimals.nearest(n, e));
        return row.length;
    }

    public int count() {
        return row.length;
    }

    public int clear() {
        int before = row.length;
        row.empty();
        return before;
    }

    public long value(int i) throws IndexOutOfBoundsException {
        requireBelow(i, row.length);
        return row.valueOrZero(i);
    }

    public long turned(int i) throws IndexOutOfBoundsException {
        requireBelow(i, row.length);
        return flip(row.valueOrZero(i));
    }

    public int rank(int i) throws IndexOutOfBoundsException {
        requireBelow(i, row.length);
        long own = flip(row.valueOrZero(i));
        int below = 0;
        for (int j = 0; j < row.length; j++) {
            if (flip(row.valueOrZero(j)) < own) {
                below++;
            }
        }
        return below;
    }

    public long foretold(int i, int kind, int s) throws IndexOutOfBoundsException, IllegalArgumentException {
        requireBelow(i, row.length + 1);
        if (kind < LAST || kind > STEPS) {
            throw new IllegalArgumentException("kind is not 1 .. 5");
        }
        if (kind == STRIDE && (s < 1 || s > MOST_STRIDE)) {
            throw new IllegalArgumentException("s is not 1 .. 8");
        }
        return row.guess(i, kind, s);
    }

    public int power(int i) throws IndexOutOfBoundsException {
        requireBelow(i, row.length);
        long bits = row.valueOrZero(i);
        for (int e = 0; e <= MOST_POWER; e++) {
            if (Decimals.scale(bits, e) != Decimals.NOT_DECIMAL) {
                return e;
            }
        }
        return NONE;
    }

    public long scaled(int i, int e) throws IndexOutOfBoundsException, IllegalArgumentException, ArithmeticException {
        requireBelow(i, row.length);
        requirePower(e);
        long k = Decimals.scale(row.valueOrZero(i), e);
        if (k == Decimals.NOT_DECIMAL) {
            throw new ArithmeticException("the value is not DECIMAL by e");
        }
        return k;
    }

    public int pack(int size) throws IllegalArgumentException {
        if (size < 1 || size > MOST_SIZE) {
            throw new IllegalArgumentException("size is not 1 .. 64");
        }
        out.begin(row.length, size);
        for (int from = 0; from < row.length; from += size) {
            out.packBlock(row, from, Math.min(from + size, row.length));
        }
        out.sink.finish();
        return out.sink.byteLength();
    }

    public int blocks() {
        return out.blockCount;
    }

    public int way(int b) throws IndexOutOfBoundsException {
        requireBelow(b, out.blockCount);
        return out.chosenWay(b);
    }

    public int bits(int b, int way) throws IndexOutOfBoundsException, IllegalArgumentException {
        requireBelow(b, out.blockCount);
        if (way < 0 || way >= WAYS) {
            throw new IllegalArgumentException("way is not 0 .. 7");
        }
        return out.bitsBy(b, way);
    }

    public int size() {
        return out.sink.byteLength();
    }

    public int out(int i) throws IndexOutOfBoundsException {
        requireBelow(i, out.sink.byteLength());
        return byteAt(out.sink.bytes, i);
    }

    public int feed(long w, int n) throws IllegalArgumentException, IllegalStateException {
        if (n < 1 || n > 8) {
            throw new IllegalArgumentException("n is not 1 .. 8");
        }
        if (tape.length + n > MOST_TAPE) {
            throw new IllegalStateException("THE TAPE would have more than 4000 bytes");
        }
        for (int k = n - 1; k >= 0; k--) {
            tape.append((int) (w >>> 8 * k) & 255);
        }
        return tape.length;
    }

    public int cut(int n) throws IllegalArgumentException {
        if (n < 0 || n > tape.length) {
            throw new IllegalArgumentException("THE TAPE has not so many bytes");
        }
        int gone = tape.length - n;
        tape.length = n;
        return gone;
    }

    public int turn() {
        tape.length = 0;
        for (int i = 0; i < out.sink.byteLength(); i++) {
            tape.append(byteAt(out.sink.bytes, i));
        }
        return tape.length;
    }

    public int change(int i, int by) throws IndexOutOfBoundsException, IllegalArgumentException {
        requireBelow(i, tape.length);
        if (by < 0 || by > 255) {
            throw new IllegalArgumentException("by is not 0 .. 255");
        }
        tape.xorAt(i, by);
        return byteAt(tape.bytes, i);
    }

    public int open() {
        tape.rewind();
        decoder.read(tape, draft);
        if (tape.fault == 0) {
            Row read = draft;
            draft = row;
            row = read;
        }
        return tape.fault;
    }

    public int place() {
        return tape.faultPlace;
    }

    private void requireRoom() {
        if (row.length >= MOST_VALUES) {
            throw new IllegalStateException("there are 256 values");
        }
    }

    private static void requirePower(int e) {
        if (e < 0 || e > MOST_POWER) {
            throw new IllegalArgumentException("e is not 0 .. 15");
        }
    }

    private static void requireBelow(int i, int bound) {
        if (i < 0 || i >= bound) {
            throw new IndexOutOfBoundsException("there is none such");
        }
    }

    // Its own inverse, since the highest bit stays as it is.
    private static long flip(long bits) {
        return bits < 0 ? bits ^ ~SIGN : bits;
    }

    private static int byteAt(int[] bytes, int i) {
        return i >= 0 && i < bytes.length ? bytes[i] : 0;
    }

    private static int checkOf(int[] bytes, int length) {
        int check = 1;
        for (int i = 0; i < length; i++) {
            check = (31 * check + byteAt(bytes, i)) % 65521;
        }
        return check;
    }

    /** Values, with what the two tables tell of each one and of the next kept as the values come. */
    private static final class Row {
        private static final int TABLE_SIZE = 64;

        private final long[] values = new long[MOST_VALUES];
        private int length = 0;
        private final long[] toldByTable = new long[MOST_VALUES + 1];
        private final long[] toldStep = new long[MOST_VALUES + 1];
        private final long[] table = new long[TABLE_SIZE];
        private final long[] steps = new long[TABLE_SIZE];
        private int tablePlace = 0;
        private int stepPlace = 0;

        void empty() {
            length = 0;
            tablePlace = 0;
            stepPlace = 0;
            Arrays.fill(table, 0L);
            Arrays.fill(steps, 0L);
        }

        void append(long bits) {
            if (length >= MOST_VALUES) {
                return;
            }
            long step = bits - valueOrZero(length - 1);
            values[length] = bits;
            length++;
            table[tablePlace] = bits;
            tablePlace = nextPlace(tablePlace, bits);
            toldByTable[length] = table[tablePlace];
            steps[stepPlace] = step;
            stepPlace = nextPlace(stepPlace, step);
            toldStep[length] = steps[stepPlace];
        }

        private static int nextPlace(int old, long entry) {
            return (8 * old ^ (int) (entry >>> 56)) & (TABLE_SIZE - 1);
        }

        long valueOrZero(int i) {
            return i >= 0 && i < length ? values[i] : 0;
        }

        long guess(int i, int kind, int stride) {
            if (i < 0 || i > length) {
                return 0;
            }
            switch (kind) {
                case LAST:
                    return valueOrZero(i - 1);
                case STRIDE:
                    return valueOrZero(i - stride);
                case LINE:
                    return flip(2 * flip(valueOrZero(i - 1)) - flip(valueOrZero(i - 2)));
                case TABLE:
                    return toldByTable[i];
                default:
                    return valueOrZero(i - 1) + toldStep[i];
            }
        }
    }

    /** Doubles and whole numbers over powers of ten, by whole numbers alone. */
    private static final class Decimals {
        static final long NOT_DECIMAL = 1L << 63;
        static final long BOUND = 1L << FRACTION_BITS;

        private static final int EXPONENT_OF_ONE_UNIT = 1075;
        // 10^e is 5^e with e more in the exponent: so divisors stay below 2^35 and products below 2^88.
        private static final long[] FIVES = {
            1L, 5L, 25L, 125L, 625L, 3125L, 15625L, 78125L, 390625L, 1953125L, 9765625L, 48828125L, 244140625L,
            1220703125L, 6103515625L, 30517578125L
        };
        private static final int LOW_BITS = 27;
        private static final int MOST_SHIFT = 28;
        private static final int MOST_ROUNDS = 8;

        private static long fiveTo(int e) {
            return e >= 0 && e < FIVES.length ? FIVES[e] : 1;
        }

        /** The bits of the double to which k / 10^e is NEAREST, for k without sign below 2^52. */
        static long nearest(long k, int e) {
            long divisor = fiveTo(e);
            if (k == 0 || divisor == 0) {
                return 0;
            }
            long size = Math.abs(k);
            long quotient = size / divisor;
            long remainder = size % divisor;
            int halvings = e;
            for (int round = 0; round < MOST_ROUNDS && quotient < BOUND; round++) {
                int shift = Math.min(MOST_SHIFT, Long.numberOfLeadingZeros(quotient) - (63 - FRACTION_BITS));
                remainder = remainder << shift;
                quotient = (quotient << shift) + remainder / divisor;
                remainder = remainder % divisor;
                halvings += shift;
            }
            // The divisor is odd, so the remainder is never just half of it.
            if (2 * remainder > divisor) {
                quotient++;
            }
            // A quotient rounded up to 2^53 carries into the exponent, as it should.
            long bits = ((long) (EXPONENT_OF_ONE_UNIT - halvings) << FRACTION_BITS) + (quotient - BOUND);
            return k < 0 ? bits | SIGN : bits;
        }

        /** SCALED k by e of a double's bits, or NOT_DECIMAL. */
        static long scale(long bits, int e) {
            if (bits == 0) {
                return 0;
            }
            long unsigned = bits & ~SIGN;
            // A k / 10^e lies less than 1/2 / 10^e from the double to which it is NEAREST, so no other k can be it.
            long k = nearestWhole(unsigned, e);
            if (k <= 0 || k >= BOUND || nearest(k, e) != unsigned) {
                return NOT_DECIMAL;
            }
            return bits < 0 ? -k : k;
        }

        // The whole number nearest to 10^e times a double above 0; 2^52 stands for any that is not below it.
        private static long nearestWhole(long unsigned, int e) {
            int exponent = (int) (unsigned >>> FRACTION_BITS);
            int halvings = EXPONENT_OF_ONE_UNIT - exponent - e - 1;
            if (halvings < 0) {
                return BOUND;
            }
            // The product is below 2^88, so nothing is left of it; all doubles without the hidden bit end here.
            if (halvings > 88) {
                return 0;
            }
            long fraction = (unsigned & (BOUND - 1)) | BOUND;
            long low = (fraction & ((1L << LOW_BITS) - 1)) * fiveTo(e);
            long high = (fraction >>> LOW_BITS) * fiveTo(e) + (low >>> LOW_BITS);
            low = low & ((1L << LOW_BITS) - 1);
            return (shiftedRight(high, low, halvings) + 1) >>> 1;
        }

        // (high * 2^27 + low) / 2^count, as a whole number, or 2^53 where it is not below that.
        private static long shiftedRight(long high, long low, int count) {
            if (count >= LOW_BITS) {
                return high >>> (count - LOW_BITS);
            }
            if (high >>> (FRACTION_BITS + 1 - LOW_BITS + count) != 0) {
                return 2 * BOUND;
            }
            return (high << (LOW_BITS - count)) + (low >>> count);
        }
    }

    /** The WINDOW of a block: the bits between the zeros ahead and those behind. */
    private static final class Window {
        private int ahead = 0;
        private int length = 0;

        void shut() {
            ahead = 0;
            length = 0;
        }

        void moveTo(int newAhead, int newLength) {
            ahead = newAhead;
            length = newLength;
        }

        boolean isThere() {
            return length > 0;
        }

        int behind() {
            return 64 - ahead - length;
        }

        boolean covers(int zerosAhead, int zerosBehind) {
            return isThere() && zerosAhead >= ahead && zerosBehind >= behind();
        }
    }

    /** Bits as they come; one without room for bytes counts them only, so that a block is measured as it is written. */
    private static final class BitSink {
        private final int[] bytes;
        private int length = 0;

        BitSink(int most) {
            bytes = new int[Math.max(0, most)];
        }

        void restart() {
            length = 0;
        }

        int byteLength() {
            return length / 8;
        }

        void put(long number, int width) {
            int start = length;
            length += width;
            for (int k = 0; k < width && bytes.length > 0; k++) {
                putBit(start + k, (int) (number >>> (width - 1 - k)) & 1);
            }
        }

        private void putBit(int at, int bit) {
            int i = at / 8;
            if (i < 0 || i >= bytes.length) {
                return;
            }
            // Bytes of an older OUT may still stand here.
            if (at % 8 == 0) {
                bytes[i] = 0;
            }
            bytes[i] |= bit << (7 - at % 8);
        }

        void finish() {
            put(0, (8 - length % 8) % 8);
            put(checkOf(bytes, byteLength()), CHECK_BITS);
        }
    }

    /** OUT, and how many bits each of its blocks would have by each way: THE ROW may change before that is asked. */
    private static final class Out {
        private final BitSink sink = new BitSink(MOST_OUT);
        private final BitSink meter = new BitSink(0);
        private final Encoder encoder = new Encoder();
        private final int[] bitCounts = new int[MOST_VALUES * WAYS];
        private final int[] chosen = new int[MOST_VALUES];
        private int blockCount = 0;

        void begin(int valueCount, int size) {
            sink.restart();
            blockCount = 0;
            sink.put(valueCount, COUNT_BITS);
            sink.put(size, SIZE_BITS);
        }

        void packBlock(Row row, int from, int to) {
            if (blockCount >= MOST_VALUES) {
                return;
            }
            encoder.planStride(row, from, to, meter);
            encoder.planDecimal(row, from, to);
            int best = PLAIN;
            int fewest = BEYOND_ANY_BLOCK;
            for (int way = 0; way < WAYS; way++) {
                int needed = encoder.write(row, from, to, way, meter);
                bitCounts[blockCount * WAYS + way] = needed;
                if (needed != NONE && needed < fewest) {
                    best = way;
                    fewest = needed;
                }
            }
            chosen[blockCount] = best;
            blockCount++;
            encoder.write(row, from, to, best, sink);
        }

        int chosenWay(int b) {
            return b >= 0 && b < blockCount ? chosen[b] : NONE;
        }

        int bitsBy(int b, int way) {
            boolean known = b >= 0 && b < blockCount && way >= 0 && way < WAYS;
            return known ? bitCounts[b * WAYS + way] : NONE;
        }
    }

    /** Writes the values from .. to - 1 of a row as one block. */
    private static final class Encoder {
        private final Window window = new Window();
        private final long[] folded = new long[MOST_SIZE];
        private int stride = 1;
        private int power = NONE;
        private int width = 0;

        void planStride(Row row, int from, int to, BitSink meter) {
            int fewest = BEYOND_ANY_BLOCK;
            int best = 1;
            for (int s = 1; s <= MOST_STRIDE; s++) {
                meter.restart();
                putRests(row, from, to, STRIDE, s, meter);
                if (meter.length < fewest) {
                    best = s;
                    fewest = meter.length;
                }
            }
            stride = best;
        }

        void planDecimal(Row row, int from, int to) {
            power = NONE;
            for (int e = 0; e <= MOST_POWER; e++) {
                if (fold(row, from, to, e)) {
                    power = e;
                    return;
                }
            }
        }

        private boolean fold(Row row, int from, int to, int e) {
            long before = 0;
            width = 0;
            for (int i = from; i < to && i - from < MOST_SIZE; i++) {
                long k = Decimals.scale(row.valueOrZero(i), e);
                if (k == Decimals.NOT_DECIMAL) {
                    return false;
                }
                long z = k - before;
                long number = z < 0 ? -2 * z - 1 : 2 * z;
                folded[i - from] = number;
                width = Math.max(width, 64 - Long.numberOfLeadingZeros(number));
                before = k;
            }
            return true;
        }

        /** How many bits it put, or NONE where the block can't be packed this way. */
        int write(Row row, int from, int to, int way, BitSink sink) {
            if (way == DECIMAL && power == NONE) {
                return NONE;
            }
            int start = sink.length;
            sink.put(way, WAY_BITS);
            switch (way) {
                case PLAIN:
                    putPlain(row, from, to, sink);
                    break;
                case DECIMAL:
                    putDecimals(to - from, sink);
                    break;
                case PARTS:
                    putHeads(row, from, to, sink);
                    putFractions(row, from, to, sink);
                    break;
                default:
                    putRests(row, from, to, way, stride, sink);
                    break;
            }
            return sink.length - start;
        }

        private void putPlain(Row row, int from, int to, BitSink sink) {
            for (int i = from; i < to; i++) {
                sink.put(row.valueOrZero(i), 64);
            }
        }

        private void putRests(Row row, int from, int to, int kind, int s, BitSink sink) {
            if (kind == STRIDE) {
                sink.put(s - 1, STRIDE_BITS);
            }
            window.shut();
            for (int i = from; i < to; i++) {
                putRest(row.valueOrZero(i) ^ row.guess(i, kind, s), sink);
            }
        }

        private void putRest(long rest, BitSink sink) {
            if (rest == 0) {
                sink.put(0, 1);
                return;
            }
            sink.put(1, 1);
            int ahead = Long.numberOfLeadingZeros(rest);
            int behind = Long.numberOfTrailingZeros(rest);
            int length = 64 - ahead - behind;
            if (window.covers(ahead, behind) && window.length <= 2 * WINDOW_BITS + length) {
                sink.put(0, 1);
                sink.put(rest >>> window.behind(), window.length);
                return;
            }
            sink.put(1, 1);
            sink.put(ahead, WINDOW_BITS);
            sink.put(length - 1, WINDOW_BITS);
            sink.put(rest >>> behind, length);
            window.moveTo(ahead, length);
        }

        private void putDecimals(int count, BitSink sink) {
            sink.put(power, POWER_BITS);
            sink.put(width, WIDTH_BITS);
            for (int j = 0; j < count && j < MOST_SIZE; j++) {
                sink.put(folded[j], width);
            }
        }

        private void putHeads(Row row, int from, int to, BitSink sink) {
            long before = NONE;
            for (int i = from; i < to; i++) {
                long head = row.valueOrZero(i) >>> FRACTION_BITS;
                if (i > from) {
                    sink.put(head == before ? 0 : 1, 1);
                }
                if (head != before) {
                    sink.put(head, HEAD_BITS);
                }
                before = head;
            }
        }

        private void putFractions(Row row, int from, int to, BitSink sink) {
            // The bit above the fractions stands for all of them being 0.
            long all = Decimals.BOUND;
            for (int i = from; i < to; i++) {
                all |= row.valueOrZero(i);
            }
            int tail = Long.numberOfTrailingZeros(all);
            sink.put(tail, TAIL_BITS);
            for (int i = from; i < to; i++) {
                sink.put(row.valueOrZero(i) >>> tail, FRACTION_BITS - tail);
            }
        }
    }

    /** THE TAPE, and how far it has been read: the first FAULT stays, and behind it only zeros are read. */
    private static final class Tape {
        private final int[] bytes = new int[MOST_TAPE];
        private int length = 0;
        private int at = 0;
        private int fault = 0;
        private int faultPlace = NONE;

        void append(int octet) {
            if (length < MOST_TAPE) {
                bytes[length] = octet;
                length++;
            }
        }

        void xorAt(int i, int by) {
            if (i >= 0 && i < length) {
                bytes[i] ^= by;
            }
        }

        void rewind() {
            at = 0;
            fault = 0;
            faultPlace = NONE;
        }

        boolean isSound() {
            return fault == 0;
        }

        void fail(int newFault, int newPlace) {
            if (fault == 0) {
                fault = newFault;
                faultPlace = newPlace;
            }
        }

        long take(int width) {
            if (fault != 0) {
                return 0;
            }
            if (width > 8 * length - at) {
                fault = TOO_SHORT;
                faultPlace = 8 * length;
                return 0;
            }
            long number = 0;
            for (int k = 0; k < width && at < 8 * length; k++) {
                int bit = bytes[at / 8] >> (7 - at % 8) & 1;
                number = number << 1 | bit;
                at++;
            }
            return number;
        }
    }

    /** Reads a tape into a row; what the row holds counts only when the tape has no FAULT. */
    private static final class Decoder {
        private final Window window = new Window();
        private final long[] heads = new long[MOST_SIZE];

        void read(Tape tape, Row row) {
            row.empty();
            int total = (int) tape.take(COUNT_BITS);
            if (total > MOST_VALUES) {
                tape.fail(BAD_START, 0);
            }
            int size = (int) tape.take(SIZE_BITS);
            if (size < 1 || size > MOST_SIZE) {
                tape.fail(BAD_START, COUNT_BITS);
            }
            for (int b = 0; b < MOST_VALUES && row.length < total && tape.isSound(); b++) {
                readBlock(tape, row, Math.min(size, total - row.length));
            }
            readPadding(tape);
            readEnd(tape);
        }

        private void readPadding(Tape tape) {
            int padding = (8 - tape.at % 8) % 8;
            for (int k = 0; k < padding; k++) {
                int start = tape.at;
                if (tape.take(1) != 0) {
                    tape.fail(BAD_PADDING, start);
                }
            }
        }

        private void readEnd(Tape tape) {
            int start = tape.at;
            if (tape.take(CHECK_BITS) != checkOf(tape.bytes, start / 8)) {
                tape.fail(BAD_CHECK, start);
            }
            if (tape.at < 8 * tape.length) {
                tape.fail(TOO_LONG, tape.at);
            }
        }

        private void readBlock(Tape tape, Row row, int count) {
            int way = (int) tape.take(WAY_BITS);
            switch (way) {
                case PLAIN:
                    readPlain(tape, row, count);
                    break;
                case DECIMAL:
                    readDecimals(tape, row, count);
                    break;
                case PARTS:
                    readHeads(tape, count);
                    readFractions(tape, row, count);
                    break;
                default:
                    readRests(tape, row, way, count);
                    break;
            }
        }

        private void readPlain(Tape tape, Row row, int count) {
            for (int j = 0; j < count && tape.isSound(); j++) {
                row.append(tape.take(64));
            }
        }

        private void readRests(Tape tape, Row row, int kind, int count) {
            int stride = kind == STRIDE ? (int) tape.take(STRIDE_BITS) + 1 : 1;
            window.shut();
            for (int j = 0; j < count && tape.isSound(); j++) {
                long rest = tape.take(1) == 0 ? 0 : readRest(tape);
                row.append(rest ^ row.guess(row.length, kind, stride));
            }
        }

        private long readRest(Tape tape) {
            int start = tape.at;
            if (tape.take(1) != 0) {
                return readNewWindow(tape);
            }
            if (!window.isThere()) {
                tape.fail(NO_WINDOW, start);
                return 0;
            }
            return tape.take(window.length) << window.behind();
        }

        private long readNewWindow(Tape tape) {
            int start = tape.at;
            int ahead = (int) tape.take(WINDOW_BITS);
            int length = (int) tape.take(WINDOW_BITS) + 1;
            if (ahead + length > 64) {
                tape.fail(BAD_WINDOW, start);
                return 0;
            }
            long inside = tape.take(length);
            if ((inside & 1) == 0 || inside >>> (length - 1) == 0) {
                tape.fail(BAD_WINDOW, start);
            }
            window.moveTo(ahead, length);
            return inside << window.behind();
        }

        private void readDecimals(Tape tape, Row row, int count) {
            int power = (int) tape.take(POWER_BITS);
            int widthStart = tape.at;
            int width = (int) tape.take(WIDTH_BITS);
            if (width > MOST_WIDTH) {
                tape.fail(BAD_NUMBER, widthStart);
            }
            long k = 0;
            for (int j = 0; j < count && tape.isSound(); j++) {
                int start = tape.at;
                long number = tape.take(width);
                long half = number >>> 1;
                k += (number & 1) == 0 ? half : -half - 1;
                if (Math.abs(k) >= Decimals.BOUND) {
                    tape.fail(BAD_NUMBER, start);
                    return;
                }
                row.append(Decimals.nearest(k, power));
            }
        }

        private void readHeads(Tape tape, int count) {
            for (int j = 0; j < count && j < MOST_SIZE; j++) {
                boolean same = j > 0 && tape.take(1) == 0;
                heads[j] = same ? heads[j - 1] : tape.take(HEAD_BITS);
            }
        }

        private void readFractions(Tape tape, Row row, int count) {
            int start = tape.at;
            int tail = (int) tape.take(TAIL_BITS);
            if (tail > FRACTION_BITS) {
                tape.fail(BAD_NUMBER, start);
            }
            for (int j = 0; j < count && j < MOST_SIZE && tape.isSound(); j++) {
                row.append(heads[j] << FRACTION_BITS | tape.take(FRACTION_BITS - tail) << tail);
            }
        }
    }
}
