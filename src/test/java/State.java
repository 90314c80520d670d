import java.util.function.LongSupplier;

/** All that an object tells of itself, as a text, and what it does with a few calls more: so two can be held together. */
final class State {
    private static final int ENDS = 12;

    private final DoublePacks x;
    private final StringBuilder told = new StringBuilder();

    private State(DoublePacks x) {
        this.x = x;
    }

    /** It takes some 250 calls at most, and changes the object. */
    static String of(DoublePacks x) {
        State state = new State(x);
        state.tellRow();
        state.tellOut();
        state.tellTape();
        state.goOn();
        return state.told.toString();
    }

    private void tell(String name, long answer) {
        told.append(name).append(' ').append(answer).append("; ");
    }

    private void tellRow() {
        int count = x.count();
        tell("count", count);
        for (int i = 0; i < count; i++) {
            if (atEnds(i, count)) {
                tell("value " + i, x.value(i));
            }
        }
        for (int kind = 1; kind <= 5; kind++) {
            tell("foretold by " + kind, x.foretold(count, kind, 1));
        }
    }

    private static boolean atEnds(int i, int count) {
        return i < ENDS || i >= count - ENDS;
    }

    private void tellOut() {
        int size = x.size();
        tell("size", size);
        for (int i = 0; i < size; i++) {
            if (atEnds(i, size)) {
                tell("out " + i, x.out(i));
            }
        }
        int blocks = x.blocks();
        tell("blocks", blocks);
        for (int b = 0; b < blocks && b < ENDS; b++) {
            tell("way " + b, x.way(b));
            for (int way = 0; way < 8; way++) {
                tell("bits " + b + " " + way, x.bits(b, way));
            }
        }
    }

    private void tellTape() {
        tell("place", x.place());
        boolean more = true;
        for (int i = 0; more && i < 5 * ENDS; i++) {
            int at = i;
            more = tellOrRefuse("tape " + at, () -> x.change(at, 0));
        }
        tell("cut", x.cut(0));
    }

    private boolean tellOrRefuse(String name, LongSupplier call) {
        try {
            tell(name, call.getAsLong());
            return true;
        } catch (IndexOutOfBoundsException | IllegalStateException e) {
            told.append(name).append(" no; ");
            return false;
        }
    }

    private void goOn() {
        tellOrRefuse("add", () -> x.add(0x4012345678000000L));
        for (int kind = 1; kind <= 5; kind++) {
            tell("then foretold by " + kind, x.foretold(x.count(), kind, 2));
        }
        tell("pack", x.pack(5));
        tell("turn", x.turn());
        tell("open", x.open());
        tell("feed", x.feed(1, 1));
        tell("open again", x.open());
        tell("then place", x.place());
    }
}
