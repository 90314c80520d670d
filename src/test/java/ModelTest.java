import java.util.ArrayList;
import java.util.List;
import java.util.Random;

/** Rows and tapes of many kinds, held against the Model: promises 3, 8 to 17, 22 and 23. */
public final class ModelTest {
    private static final Check CHECK = new Check();
    private static final Random RANDOM = new Random(20261116);
    private static final int[] SIZES = {1, 2, 3, 5, 7, 8, 10, 16, 31, 32, 63, 64};

    public static void main(String[] args) {
        for (int run = 0; run < 400; run++) {
            List<Long> row = made(run);
            askValues(row, run);
            askPacked(row, run);
            askTapes(row, run);
        }
        for (int run = 0; run < 6000; run++) {
            askMadeUpTape(run);
        }
        CHECK.end();
    }

    private static List<Long> made(int run) {
        List<Long> row = new ArrayList<>();
        int count = run % 9 == 0 ? 256 : RANDOM.nextInt(run % 3 == 0 ? 100 : 20);
        int shape = run % 14;
        while (row.size() < count) {
            int own = shape >= 12 ? row.size() / 9 % 12 : shape;
            row.add(shaped(own, row));
        }
        return row;
    }

    private static void addAll(DoublePacks x, List<Long> row) {
        for (int i = 0; i < row.size(); i++) {
            CHECK.same("add", x.add(row.get(i)), i + 1);
        }
    }

    private static long shaped(int shape, List<Long> row) {
        int i = row.size();
        long before = i == 0 ? 0 : row.get(i - 1);
        switch (shape) {
            case 0:
                return Model.nearest(RANDOM.nextLong() >> 12, RANDOM.nextInt(16));
            case 1:
                return RANDOM.nextLong();
            case 2:
                return Rows.bits(100 + i * 0.25);
            case 3:
                return Rows.bits(Math.sin(i * 0.1) * 20);
            case 4:
                return i < 5 ? RANDOM.nextLong() : row.get(i - 5) ^ (RANDOM.nextInt(4) == 0 ? 1L << RANDOM.nextInt(64) : 0);
            case 5:
                return before ^ (long) RANDOM.nextInt(3) << RANDOM.nextInt(63);
            case 6:
                return Model.nearest(20000 + RANDOM.nextInt(300), 2);
            case 7:
                return (long) RANDOM.nextInt(4) << 62 | (long) RANDOM.nextInt(1024) << 40;
            case 8:
                return before + (RANDOM.nextInt(10) == 0 ? RANDOM.nextLong() : 0x0123456789L);
            case 9:
                return Rows.bits(new double[] {0.1, -2.5, 1e300, 0.0, -0.0, Double.NaN}[i % 6]);
            case 10:
                return Model.turned(Model.turned(before) - 3 * (1L << 44) + (i % 2));
            default:
                return Rows.bits(RANDOM.nextInt(2000) - 1000) + (RANDOM.nextInt(30) == 0 ? 1 : 0);
        }
    }

    private static void askValues(List<Long> row, int run) {
        String name = "run " + run + ": ";
        Anew x = new Anew(row.size(), y -> addAll(y, row));
        CHECK.same(name + "count()", x.ask().count(), row.size());
        for (int i = 0; i <= row.size(); i += 1 + RANDOM.nextInt(3)) {
            for (int kind = 1; kind <= 5; kind++) {
                int s = 1 + RANDOM.nextInt(8);
                CHECK.same(name + "foretold(" + i + ", " + kind + ", " + s + ")", x.ask().foretold(i, kind, s),
                        Model.foretold(row, i, kind, s));
            }
            if (i < row.size()) {
                askValue(x, row, i, name);
            }
        }
    }

    private static void askValue(Anew x, List<Long> row, int i, String name) {
        long bits = row.get(i);
        CHECK.same(name + "value(" + i + ")", x.ask().value(i), bits);
        CHECK.same(name + "turned(" + i + ")", x.ask().turned(i), Model.turned(bits));
        CHECK.same(name + "power(" + i + ")", x.ask().power(i), Model.power(bits));
        int below = 0;
        for (long other : row) {
            below += Model.turned(other) < Model.turned(bits) ? 1 : 0;
        }
        CHECK.same(name + "rank(" + i + ")", x.ask().rank(i), below);
        int e = RANDOM.nextInt(16);
        Long k = Model.scaled(bits, e);
        if (k == null) {
            CHECK.notDecimal(name + "scaled(" + i + ", " + e + ")", () -> x.ask().scaled(i, e));
        } else {
            CHECK.same(name + "scaled(" + i + ", " + e + ")", x.ask().scaled(i, e), k);
        }
    }

    private static void askPacked(List<Long> row, int run) {
        for (int turn = 0; turn < 3; turn++) {
            int size = SIZES[RANDOM.nextInt(SIZES.length)];
            int other = SIZES[RANDOM.nextInt(SIZES.length)];
            String name = "run " + run + " packed by " + size + ": ";
            Model.Packed due = Model.pack(row, size);
            Anew x = new Anew(row.size() + 2, y -> {
                addAll(y, row);
                y.pack(other);
                CHECK.same(name + "pack()", y.pack(size), due.bits.length() / 8);
            });
            CHECK.same(name + "size()", x.ask().size(), due.bits.length() / 8);
            for (int i = 0; i < due.bits.length() / 8; i++) {
                CHECK.same(name + "out(" + i + ")", x.ask().out(i),
                        Integer.parseInt(due.bits.substring(8 * i, 8 * i + 8), 2));
            }
            CHECK.same(name + "blocks()", x.ask().blocks(), due.ways.size());
            for (int b = 0; b < due.ways.size(); b++) {
                CHECK.same(name + "way(" + b + ")", x.ask().way(b), due.ways.get(b));
                for (int way = 0; way < 8; way++) {
                    CHECK.same(name + "bits(" + b + ", " + way + ")", x.ask().bits(b, way), due.counts.get(b)[way]);
                }
            }
        }
    }

    private static void askTapes(List<Long> row, int run) {
        String tape = Model.pack(row, SIZES[RANDOM.nextInt(SIZES.length)]).bits;
        askOpen("run " + run, tape);
        for (int turn = 0; turn < 20; turn++) {
            StringBuilder changed = new StringBuilder(tape);
            int at = RANDOM.nextInt(Math.min(tape.length(), turn < 10 ? 60 : tape.length()));
            changed.setCharAt(at, changed.charAt(at) == '0' ? '1' : '0');
            if (turn % 3 == 0) {
                changed.setLength(8 * RANDOM.nextInt(tape.length() / 8 + 1));
            } else if (turn % 3 == 1) {
                String before = changed.substring(0, tape.length() - 16);
                changed.replace(before.length(), tape.length(), Rows.check(before));
            }
            askOpen("run " + run + " changed at " + at, changed.toString());
        }
    }

    private static void askOpen(String name, String tape) {
        Model.Opened due = Model.open(tape);
        List<Long> row = due.fault == 0 ? due.row : List.of(1L, 2L);
        Anew x = new Anew(3 + (tape.length() + 63) / 64, y -> {
            addAll(y, List.of(1L, 2L));
            Rows.feedBits(y, tape);
            CHECK.same(name + ": open()", y.open(), due.fault);
        });
        CHECK.same(name + ": place()", x.ask().place(), due.place);
        CHECK.same(name + ": count()", x.ask().count(), row.size());
        for (int i = 0; i < row.size(); i++) {
            CHECK.same(name + ": value(" + i + ")", x.ask().value(i), row.get(i));
        }
    }

    /** Blocks that pack() would never write, of ways that change: few are whole, and all end in a right CHECK. */
    private static void askMadeUpTape(int run) {
        int values = 1 + RANDOM.nextInt(12);
        int size = 1 + RANDOM.nextInt(6);
        StringBuilder blocks = new StringBuilder();
        for (int left = values; left > 0; left -= size) {
            blocks.append(madeUpBlock(Math.min(left, size)));
        }
        String tape = Rows.packed(values, size, blocks.toString());
        int more = RANDOM.nextInt(12);
        if (more == 0) {
            tape += Rows.number(RANDOM.nextInt(), 8);
        } else if (more == 1) {
            tape = tape.substring(0, tape.length() - 8 * (1 + RANDOM.nextInt(tape.length() / 8)));
        }
        askOpen("made up tape " + run, tape);
    }

    private static String madeUpBlock(int count) {
        int way = RANDOM.nextInt(8);
        StringBuilder block = new StringBuilder(Rows.number(way, 3));
        if (way == 2) {
            block.append(Rows.number(RANDOM.nextInt(8), 3));
        }
        if (way == 0) {
            block.append(noise(64 * count));
        } else if (way == 6) {
            int width = RANDOM.nextInt(RANDOM.nextInt(6) == 0 ? 64 : 55);
            block.append(noise(4)).append(Rows.number(width, 6)).append(noise(width * count));
        } else if (way == 7) {
            madeUpParts(block, count);
        } else {
            madeUpRests(block, count);
        }
        return block.toString();
    }

    private static void madeUpParts(StringBuilder block, int count) {
        block.append(noise(12));
        for (int j = 1; j < count; j++) {
            block.append(RANDOM.nextBoolean() ? "0" : "1" + noise(12));
        }
        int tail = RANDOM.nextInt(RANDOM.nextInt(6) == 0 ? 64 : 53);
        block.append(Rows.number(tail, 6)).append(noise(Math.max(0, 52 - tail) * count));
    }

    private static void madeUpRests(StringBuilder block, int count) {
        int window = 0;
        for (int j = 0; j < count; j++) {
            int kind = RANDOM.nextInt(20);
            if (kind < 5) {
                block.append('0');
            } else if (kind < 11 && window > 0 || kind == 19) {
                block.append("10").append(noise(window));
            } else {
                int ahead = RANDOM.nextInt(64);
                window = 1 + RANDOM.nextInt(kind == 18 ? 64 : 64 - ahead);
                String inside = window == 1 ? "1" : "1" + noise(window - 2) + "1";
                inside = kind == 17 ? noise(window) : inside;
                block.append("11").append(Rows.number(ahead, 6)).append(Rows.number(window - 1, 6)).append(inside);
            }
        }
    }

    private static String noise(int width) {
        StringBuilder told = new StringBuilder();
        for (int k = 0; k < width; k++) {
            told.append(RANDOM.nextInt(2));
        }
        return told.toString();
    }
}
