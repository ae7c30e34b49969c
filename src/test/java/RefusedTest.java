import java.util.function.Supplier;
import java.util.function.ToIntFunction;

/** What is refused changes nothing, nor does what only asks: all that can be seen of a stripe is as it was. */
public final class RefusedTest {
    private static final Checks CHECKS = new Checks();
    private static final int[] FAR = Checks.FAR;

    private final Supplier<SwipedStripe> made;
    private final String before;

    /** Calls are looked at one by one, each on a stripe made anew. */
    private RefusedTest(Supplier<SwipedStripe> made) {
        this.made = made;
        before = Seen.all(made);
    }

    public static void main(String[] args) {
        RefusedTest some = new RefusedTest(RefusedTest::some);
        some.numbersOfOne();
        some.gaps();
        some.reading();
        some.sheets();
        some.asking();
        RefusedTest none = new RefusedTest(SwipedStripe::new);
        none.ofNone();
        none.asking();
        new RefusedTest(RefusedTest::full).ofTheFull();
        new RefusedTest(RefusedTest::fullOfDraws).ofTheFullOfDraws();
        new RefusedTest(RefusedTest::somethingFails).ofWhatFails();
        texts();
        CHECKS.finish();
    }

    private void stays(String call, ToIntFunction<SwipedStripe> asked) {
        CHECKS.holds(call + " changes nothing", before.equals(Seen.all(() -> {
            SwipedStripe x = made.get();
            asked.applyAsInt(x);
            return x;
        })));
    }

    private void refused(int due, String call, ToIntFunction<SwipedStripe> asked) {
        CHECKS.due(call, asked.applyAsInt(made.get()), due);
        stays(call, asked);
    }

    /** A call of one number, with each of these and with those at an int's own edges. */
    private void bad(String call, Call asked, int... numbers) {
        for (int n : numbers) {
            refused(-1, call + " of " + n, x -> asked.of(x, n));
        }
        for (int n : FAR) {
            refused(-1, call + " of " + n, x -> asked.of(x, n));
        }
    }

    private interface Call {
        int of(SwipedStripe x, int n);
    }

    /** Some of all: values, gaps, two draws, three sheets, a text begun, the faults of a text and of a load. */
    private static SwipedStripe some() {
        SwipedStripe x = new SwipedStripe();
        Hand.tell(x, "bits 5;even;begin 3;close 28;lead 2;tail 3;limit 33;clock 2;");
        Hand.tell(x, "lead 0;");
        x.add(7);
        x.add(31);
        x.write(100, 1, 2, 9);
        x.keep();
        x.add(0);
        x.write(60, 0, 1, 5);
        x.keep();
        x.sheet(0, 0, 3);
        x.lay(0, 0, 5);
        x.lay(0, 1, 0);
        x.lay(0, 2, 7);
        x.sheet(1, 1, 2);
        x.lay(1, 0, 300);
        x.lay(1, 1, 9999);
        x.sheet(2, 2, 64);
        x.lay(2, 63, 1);
        x.load(1, 1, 2, 1);
        x.feed(0x6c65616420373b20L);
        return x;
    }

    private void numbersOfOne() {
        CHECKS.due("some draws", made.get().count(3), 2);
        CHECKS.due("a fault of a text", made.get().fault(), 3);
        CHECKS.due("a fault of a load", made.get().torn(), 2);
        CHECKS.due("some gaps", made.get().count(1), made.get().stripe(0) + made.get().stripe(1));
        bad("end", SwipedStripe::end, -1, 9);
        bad("rule", SwipedStripe::rule, -1, 9);
        bad("add", SwipedStripe::add, -1, 32, 3, 28);
        bad("value", SwipedStripe::value, -1, 3);
        bad("stripe", SwipedStripe::stripe, -1, 3);
        bad("bit", SwipedStripe::bit, -1, made.get().stripe(0));
        bad("joined", SwipedStripe::joined, -1, 4);
        bad("join", SwipedStripe::join, -1, 3);
        bad("count", SwipedStripe::count, -1, 6);
    }

    private void gaps() {
        int n = made.get().count(1);
        int first = made.get().gap(0);
        bad("write of a unit", (x, v) -> x.write(v, 0, 0, 1), 3, 1000);
        bad("write of a change", (x, v) -> x.write(50, v, 0, 1), -51, 51);
        bad("write of a J", (x, v) -> x.write(50, 0, v, 1), -1, 100);
        bad("gap", SwipedStripe::gap, -1, n);
        bad("alter", (x, i) -> x.alter(i, 5), -1, n);
        bad("alter to", (x, v) -> x.alter(0, v), 0, 10000);
        bad("miss", SwipedStripe::miss, -1, n - 1, n);
        bad("split", (x, i) -> x.split(i, 1), -1, n);
        bad("split by", (x, v) -> x.split(0, v), 0, first);
    }

    private void reading() {
        bad("read by", (x, clock) -> x.read(clock, 0), -1, 3);
        bad("read for", (x, what) -> x.read(0, what), -1, 3);
        bad("heard", SwipedStripe::heard, -1, made.get().read(2, 0));
        bad("found", SwipedStripe::found, -1, 5);
        bad("symbol", SwipedStripe::symbol, -1, 3);
        bad("mended", SwipedStripe::mended, -1, 3);
        bad("smooth", SwipedStripe::smooth, -1, 3);
        bad("smoothBit", SwipedStripe::smoothBit, -1, made.get().smooth(1));
        bad("margin by", (x, clock) -> x.margin(clock, 0), -1, 3);
        bad("margin for", (x, what) -> x.margin(0, what), -1, 2);
        for (int what = 0; what < 3; what++) {
            int asked = what;
            refused(-2, "mended of VERDICT 0", x -> x.mended(asked));
        }
    }

    private void sheets() {
        bad("sheet", (x, k) -> x.sheet(k, 0, 1), -1, 4);
        bad("sheet of a lane", (x, lane) -> x.sheet(2, lane, 1), -1, 3);
        for (int k = 0; k < 4; k++) {
            int at = k;
            refused(-1, "sheet of 65", x -> x.sheet(at, 1, 65));
            refused(-1, "sheet of the most", x -> x.sheet(at, 1, Integer.MAX_VALUE));
            refused(-14, "sheet of -1", x -> x.sheet(at, 1, -1));
            refused(-14, "sheet of the least", x -> x.sheet(at, 1, Integer.MIN_VALUE));
            refused(k == 3 ? -11 : -12, "lay at -1", x -> x.lay(at, -1, 9));
            refused(k == 3 ? -11 : -12, "lay at 64", x -> x.lay(at, 64, 9));
            refused(k == 3 ? -11 : -12, "lay at the least", x -> x.lay(at, Integer.MIN_VALUE, 9));
            refused(k == 3 ? -11 : -12, "lay at the most", x -> x.lay(at, Integer.MAX_VALUE, 9));
        }
        refused(-12, "lay behind the last", x -> x.lay(0, 3, 9));
        refused(-12, "lay behind the last", x -> x.lay(1, 2, 9));
        bad("lay", (x, k) -> x.lay(k, 0, 1), -1, 4);
        bad("load", (x, k) -> x.load(k, 0, 0, 1), -1, 4);
        bad("load of a lane", (x, lane) -> x.load(0, lane, 0, 1), -1, 3);
        bad("load of so many", (x, n) -> x.load(0, 0, 0, n), -1, 65);
        // torn() is 2 and stays so: these came to no end
        refused(-21, "load with a 0 in the midst", x -> x.load(0, 0, 0, 3));
        refused(-20, "load with a 0 ahead", x -> x.load(0, 0, 1, 2));
        refused(-20, "load of 64 times 0", x -> x.load(2, 2, 0, 64));
        // these did: none came, and torn() is 2 again
        stays("load behind the last", x -> x.load(1, 1, 2, 1));
        stays("load ahead of the first", x -> x.load(1, 1, -1, 64));
        stays("load far behind the last", x -> x.load(2, 2, Integer.MAX_VALUE, 64));
    }

    /** What asks, with all numbers that it may be asked with, and some that it may not. */
    private void asking() {
        stays("fault", SwipedStripe::fault);
        stays("torn", SwipedStripe::torn);
        stays("way", SwipedStripe::way);
        stays("sway", SwipedStripe::sway);
        stays("turn there and back", x -> x.turn() + x.turn());
        for (int n = -1; n <= 9; n++) {
            int i = n;
            stays("rule, value, stripe, bit of " + n, x -> x.rule(i) + x.value(i) + x.stripe(i) + x.bit(i));
            stays("gap, heard, found, symbol of " + n, x -> x.gap(i) + x.heard(i) + x.found(i) + x.symbol(i));
            stays("mended, smooth, smoothBit of " + n, x -> x.mended(i) + x.smooth(i) + x.smoothBit(i));
            stays("joined, join, count of " + n, x -> x.joined(i) + x.join(i) + x.count(i));
            for (int clock = 0; clock < 3; clock++) {
                int by = clock;
                stays("read, margin of " + n, x -> x.read(by, i) + x.margin(by, i));
            }
        }
    }

    private void ofNone() {
        for (int what = 0; what < 5; what++) {
            int i = what;
            refused(-2, "found", x -> x.found(i));
            refused(-2, "symbol", x -> x.symbol(i));
            refused(i < 4 ? -2 : -1, "joined", x -> x.joined(i));
            refused(-2, "join", x -> x.join(i));
            refused(i < 3 ? -2 : -1, "mended", x -> x.mended(i));
            refused(i < 3 ? -2 : -1, "smooth", x -> x.smooth(i));
            refused(i < 3 ? -2 : -1, "read", x -> x.read(i % 3, i));
            refused(i < 2 ? -2 : -1, "margin", x -> x.margin(i % 3, i));
            refused(-1, "value", x -> x.value(i));
            refused(-1, "gap", x -> x.gap(i));
            refused(-1, "alter", x -> x.alter(i, 5));
            refused(-1, "miss", x -> x.miss(i));
            refused(-1, "split", x -> x.split(i, 1));
            refused(-1, "heard", x -> x.heard(i));
            refused(-1, "smoothBit", x -> x.smoothBit(i));
            refused(i < 4 ? -11 : -1, "lay", x -> x.lay(i, 0, 5));
        }
        refused(-2, "way", SwipedStripe::way);
        refused(-2, "sway", SwipedStripe::sway);
        refused(-2, "keep", SwipedStripe::keep);
        refused(-1, "end", x -> x.end(1));
        refused(0, "end", x -> x.end(0));
        refused(0, "clear", SwipedStripe::clear);
        refused(0, "turn", SwipedStripe::turn);
        refused(0, "drop", SwipedStripe::drop);
        refused(0, "wipe", SwipedStripe::wipe);
        refused(0, "load of no gaps", x -> x.load(3, 2, -1, 0));
    }

    /** 160 bytes, 16 values, 320 gaps, 64 cells. */
    private static SwipedStripe full() {
        SwipedStripe x = new SwipedStripe();
        Hand.many(x, 320);
        for (int n = 0; n < 16; n++) {
            x.add(n % 10);
        }
        for (int n = 0; n < 20; n++) {
            x.feed(0x6c6561642031373bL);
        }
        x.sheet(0, 0, 64);
        x.lay(0, 0, 9);
        x.lay(0, 63, 9);
        return x;
    }

    private void ofTheFull() {
        refused(-3, "feed", x -> x.feed(0));
        refused(-3, "add", x -> x.add(5));
        bad("add", SwipedStripe::add, -1, 16, 11, 15);
        refused(-3, "split of the first", x -> x.split(0, 5));
        refused(-3, "split of the last", x -> x.split(319, 5));
        bad("split", (x, i) -> x.split(i, 5), -1, 320);
        bad("split by", (x, v) -> x.split(0, v), 0, 101);
        bad("miss", SwipedStripe::miss, -1, 319);
        refused(-3, "load", x -> x.load(0, 0, 0, 1));
        refused(-20, "load of a 0", x -> x.load(0, 0, 1, 1));
        refused(-3, "load of a 9 and of 0s", x -> x.load(0, 0, 0, 64));
        refused(-2, "keep", SwipedStripe::keep);
        bad("end", SwipedStripe::end, -1, 161);
        bad("value", SwipedStripe::value, -1, 16);
        bad("gap", SwipedStripe::gap, -1, 320);
        for (int had = 153; had < 160; had++) {
            int n = had;
            RefusedTest less = new RefusedTest(() -> {
                SwipedStripe x = full();
                x.end(n);
                return x;
            });
            less.refused(-3, "feed behind " + n, x -> x.feed(-1));
        }
    }

    /** Six draws, three of 0 and 1, three of 1 and 0, so that another one in place of any would be seen; then 7 and 7. */
    private static SwipedStripe fullOfDraws() {
        SwipedStripe x = new SwipedStripe();
        for (int n = 0; n <= 6; n++) {
            x.clear();
            x.add(n == 6 ? 7 : n / 3);
            x.add(n == 6 ? 7 : 1 - n / 3);
            x.write(100, 0, 0, 0);
            if (n < 6) {
                x.keep();
            }
        }
        return x;
    }

    private void ofTheFullOfDraws() {
        CHECKS.due("six draws", made.get().count(3), 6);
        CHECKS.due("one more could be", made.get().found(0), 0);
        refused(-3, "keep", SwipedStripe::keep);
        bad("joined", SwipedStripe::joined, -1, 4);
        bad("join", SwipedStripe::join, -1, 2);
        RefusedTest without = new RefusedTest(() -> {
            SwipedStripe x = fullOfDraws();
            x.wipe();
            return x;
        });
        without.refused(-2, "keep without gaps", SwipedStripe::keep);
    }

    /** READ FAILS behind BEGIN, and by CLOCK 0 half a 1 is left. */
    private static SwipedStripe somethingFails() {
        SwipedStripe x = new SwipedStripe();
        Hand.bits(x, "0 11010 01101 0");
        x.keep();
        x.alter(x.count(1) - 1, 40);
        return x;
    }

    private void ofWhatFails() {
        refused(-2, "keep", SwipedStripe::keep);
        refused(-2, "sway", SwipedStripe::sway);
        refused(-2, "symbol", x -> x.symbol(0));
        refused(-2, "mended", x -> x.mended(0));
        refused(-4, "way", SwipedStripe::way);
        refused(1, "found", x -> x.found(0));
        refused(-1, "heard", x -> x.heard(11));
    }

    /** A text with a FAULT of each kind: THE TAPE is empty, the FAULT is told, all else is as it was. */
    private static void texts() {
        String before = Seen.butTheTape(RefusedTest::some);
        String[] texts = {"~", "odd;lead 3;tail", "odd;lead 3;clock 3;", "odd;lead 3;even;", "odd;lead 3;bits 3;"};
        int[] places = {0, 15, 17, 11, 18};
        for (int n = 0; n < texts.length; n++) {
            String t = texts[n];
            SwipedStripe x = some();
            CHECKS.due(t, Hand.tell(x, t), -10 - places[n]);
            CHECKS.due("fault of " + t, x.fault(), n + 1);
            CHECKS.due("tape behind " + t, x.count(4), 0);
            CHECKS.holds(t + " changes nothing else", before.equals(Seen.butTheTape(() -> {
                SwipedStripe y = some();
                Hand.tell(y, t);
                return y;
            })));
        }
    }
}
