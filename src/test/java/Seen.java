import java.util.function.Supplier;

/**
 * All that can be seen of a stripe, in one text. Some of it is seen only by calls that change it, and an object is good
 * for 512 calls alone: so each part is asked of a twin, made in the same way and for that part.
 */
final class Seen {
    private final StringBuilder text = new StringBuilder();

    private Seen() {
    }

    static String all(Supplier<SwipedStripe> twins) {
        Seen seen = new Seen();
        seen.tape(twins.get());
        return seen.text + butTheTape(twins);
    }

    /** All but THE TAPE and the FAULT of the latest text(), which a refused text may change. */
    static String butTheTape(Supplier<SwipedStripe> twins) {
        Seen seen = new Seen();
        seen.rowAndDraws(twins.get());
        seen.gaps(twins.get());
        for (int k = 0; k < 4; k++) {
            seen.sheet(twins.get(), k);
        }
        return seen.text.toString();
    }

    private void add(int answer) {
        text.append(answer).append(' ');
    }

    private void tape(SwipedStripe x) {
        add(x.fault());
        add(x.count(4));
        add(x.text());
        add(x.fault());
        for (int what = 0; what < 9; what++) {
            add(x.rule(what));
        }
    }

    private void rowAndDraws(SwipedStripe x) {
        for (int what = 0; what < 9; what++) {
            add(x.rule(what));
            add(x.stripe(what));
            add(x.joined(what));
            add(x.found(what));
            add(x.mended(what));
        }
        for (int i = 0; i < 17; i++) {
            add(x.value(i));
        }
        for (int i = 0; i < 33; i++) {
            add(x.join(i));
            add(x.symbol(i));
        }
        for (int what = 0; what < 4; what++) {
            add(x.count(what));
        }
        add(x.torn());
        add(x.way());
        add(x.sway());
    }

    private void gaps(SwipedStripe x) {
        for (int i = 0; i < 321; i++) {
            add(x.gap(i));
        }
    }

    private void sheet(SwipedStripe x, int k) {
        int lane = laneOf(x, k);
        add(lane);
        for (int i = 0; i < 65; i++) {
            x.wipe();
            add(x.load(k, lane, i, 1));
            add(x.gap(0));
        }
    }

    /** The lane as which a CELL is no CAST; 0 for nothing. */
    private static int laneOf(SwipedStripe x, int k) {
        x.wipe();
        int lane = 0;
        // a CELL beyond the row is asked for, as one that is no GAP would leave torn() as it is
        x.load(k, lane, 64, 1);
        while (lane < 2 && x.torn() == 3) {
            lane++;
            x.load(k, lane, 64, 1);
        }
        return lane;
    }
}
