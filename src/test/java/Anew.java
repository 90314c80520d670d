import java.util.function.Consumer;

/**
 * An object for many questions: it is made anew, by the same calls, before it has had its 512, as the document says
 * nothing of what comes behind those.
 */
final class Anew {
    private static final int MOST_CALLS = 512;

    private final int cost;
    private final Consumer<DoublePacks> making;
    private DoublePacks x;
    private int left = 0;

    /** The calls that make it, and how many there are. */
    Anew(int cost, Consumer<DoublePacks> making) {
        this.cost = cost;
        this.making = making;
    }

    /** For one call, that changes nothing. */
    DoublePacks ask() {
        if (left == 0) {
            x = new DoublePacks();
            making.accept(x);
            left = MOST_CALLS - cost;
        }
        left--;
        return x;
    }
}
