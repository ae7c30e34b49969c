/** Promises 32 to 37: sheets, and counting. */
public final class SheetsTest {
    private static final Checks CHECKS = new Checks();

    public static void main(String[] args) {
        sheet();
        lay();
        lanes();
        load();
        loadTorn();
        loadOfNone();
        loadRefused();
        loadFull();
        wipe();
        count();
        CHECKS.finish();
    }

    private static void sheet() {
        SwipedStripe x = new SwipedStripe();
        CHECKS.due("sheet(-1, ..)", x.sheet(-1, 0, 1), -1);
        CHECKS.due("sheet(4, ..)", x.sheet(4, 0, 1), -1);
        CHECKS.due("lane -1", x.sheet(0, -1, 1), -1);
        CHECKS.due("lane 3", x.sheet(0, 3, 1), -1);
        CHECKS.due("n 65", x.sheet(0, 0, 65), -1);
        CHECKS.due("n -1", x.sheet(0, 0, -1), -14);
        CHECKS.due("n far below 0", x.sheet(0, 0, Integer.MIN_VALUE), -14);
        CHECKS.due("BAD ahead of SIZE", x.sheet(4, 0, -1), -1);
        CHECKS.due("BAD ahead of SIZE", x.sheet(0, 3, -1), -1);
        CHECKS.due("still nothing", x.count(5), -4);
        CHECKS.due("n 0", x.sheet(0, 0, 0), 1);
        CHECKS.due("cells", x.count(5), 0);
        CHECKS.due("n 64", x.sheet(0, 0, 64), 1);
        CHECKS.due("cells", x.count(5), 64);
        x.lay(0, 0, 9);
        x.lay(0, 63, 9);
        CHECKS.due("refused", x.sheet(0, 0, -1), -14);
        CHECKS.due("a refused one leaves it", x.load(0, 0, 63, 1), 1);
        CHECKS.due("a new one", x.sheet(0, 0, 64), 1);
        CHECKS.due("its cells are 0", x.load(0, 0, 63, 1), -20);
        CHECKS.due("its first cell too", x.load(0, 0, 0, 1), -20);
        for (int k = 1; k < 4; k++) {
            CHECKS.due("sheet " + k, x.sheet(k, k - 1, k), 1);
            CHECKS.due("its last cell", x.lay(k, k - 1, 1), 1);
            CHECKS.due("none behind it", x.lay(k, k, 1), -12);
        }
    }

    private static void lay() {
        SwipedStripe x = new SwipedStripe();
        CHECKS.due("lay on nothing", x.lay(0, 0, 1), -11);
        CHECKS.due("NULL ahead of INDEX", x.lay(0, -1, 1), -11);
        CHECKS.due("lay(-1, ..)", x.lay(-1, 0, 1), -1);
        CHECKS.due("lay(4, ..)", x.lay(4, 0, 1), -1);
        x.sheet(0, 2, 2);
        CHECKS.due("cell -1", x.lay(0, -1, 1), -12);
        CHECKS.due("cell 2", x.lay(0, 2, 1), -12);
        CHECKS.due("cell far beyond", x.lay(0, Integer.MAX_VALUE, 1), -12);
        CHECKS.due("cell 1", x.lay(0, 1, 8), 1);
        CHECKS.due("cell 0", x.lay(0, 0, 7), 1);
        x.load(0, 2, 0, 2);
        CHECKS.due("gap 0", x.gap(0), 7);
        CHECKS.due("gap 1", x.gap(1), 8);
        x.sheet(0, 2, 0);
        CHECKS.due("cell 0 of none", x.lay(0, 0, 1), -12);
    }

    private static void layGives(int lane, int v, int loaded, int gap) {
        SwipedStripe x = new SwipedStripe();
        x.sheet(2, lane, 1);
        x.lay(2, 0, v);
        CHECKS.due("load of " + v + " in lane " + lane, x.load(2, lane, 0, 1), loaded);
        CHECKS.due("gap of " + v + " in lane " + lane, x.gap(0), gap);
    }

    private static void lanes() {
        layGives(0, 127, 1, 127);
        layGives(0, 128, -20, -1);
        layGives(0, 255, -20, -1);
        layGives(0, 256, -20, -1);
        layGives(0, 257, 1, 1);
        layGives(0, -255, 1, 1);
        layGives(1, 9999, 1, 9999);
        layGives(1, 10000, -20, -1);
        layGives(1, 65536 + 300, 1, 300);
        layGives(1, 32768, -20, -1);
        layGives(2, 9999, 1, 9999);
        layGives(2, 10000, -20, -1);
        layGives(2, 65536 + 300, -20, -1);
        layGives(2, 0, -20, -1);
        layGives(2, -1, -20, -1);
        layGives(2, 1, 1, 1);
    }

    private static SwipedStripe laid(int lane, int... cells) {
        SwipedStripe x = new SwipedStripe();
        x.sheet(1, lane, cells.length);
        for (int i = 0; i < cells.length; i++) {
            x.lay(1, i, cells[i]);
        }
        return x;
    }

    private static void load() {
        SwipedStripe x = laid(1, 10, 20, 30, 40);
        CHECKS.due("load", x.load(1, 1, 1, 2), 2);
        CHECKS.due("torn", x.torn(), 0);
        CHECKS.due("load behind those", x.load(1, 1, 0, 1), 1);
        CHECKS.due("gap(0)", x.gap(0), 20);
        CHECKS.due("gap(1)", x.gap(1), 30);
        CHECKS.due("gap(2)", x.gap(2), 10);
        CHECKS.due("count", x.count(1), 3);
        CHECKS.due("load of 0", x.load(1, 1, 0, 0), 0);
        CHECKS.due("load of 0 beyond", x.load(1, 1, 99, 0), 0);
        CHECKS.due("torn of 0 beyond", x.torn(), 0);
        x.sheet(0, 2, 64);
        for (int i = 0; i < 64; i++) {
            x.lay(0, i, i + 1);
        }
        CHECKS.due("load of 64", x.load(0, 2, 0, 64), 64);
        CHECKS.due("the last of 64", x.gap(66), 64);
    }

    private static void loadTorn() {
        SwipedStripe x = laid(1, 10, 20, 30, 40);
        CHECKS.due("load beyond the end", x.load(1, 1, 2, 3), 2);
        CHECKS.due("torn: INDEX", x.torn(), 2);
        CHECKS.due("those ahead came", x.count(1), 2);
        CHECKS.due("load as BYTES", x.load(1, 0, 0, 1), 0);
        CHECKS.due("torn: CAST", x.torn(), 3);
        CHECKS.due("load of nothing", x.load(0, 0, 0, 1), 0);
        CHECKS.due("torn: NULL", x.torn(), 1);
        CHECKS.due("load as INTS", x.load(1, 2, 0, 1), 0);
        CHECKS.due("torn: CAST", x.torn(), 3);
        CHECKS.due("load from -1", x.load(1, 1, -1, 3), 0);
        CHECKS.due("torn: INDEX", x.torn(), 2);
        CHECKS.due("load as BYTES beyond the end", x.load(1, 0, 9, 1), 0);
        CHECKS.due("torn: CAST ahead of INDEX", x.torn(), 3);
        CHECKS.due("load from the end", x.load(1, 1, 4, 1), 0);
        CHECKS.due("torn: INDEX", x.torn(), 2);
        CHECKS.due("load from far beyond", x.load(1, 1, Integer.MAX_VALUE, 64), 0);
        CHECKS.due("load from far below", x.load(1, 1, Integer.MIN_VALUE, 64), 0);
        CHECKS.due("torn: INDEX", x.torn(), 2);
        CHECKS.due("still 2", x.count(1), 2);
    }

    /** The machine finds nothing where no cell is asked for: each such load ends whole, and what was torn is so no more. */
    private static void loadOfNone() {
        SwipedStripe x = laid(1, 10, 20);
        x.sheet(2, 0, 0);
        noneIsNotTorn(x, 1, 1, 0);
        noneIsNotTorn(x, 1, 1, 2);
        noneIsNotTorn(x, 1, 1, -1);
        noneIsNotTorn(x, 1, 1, Integer.MAX_VALUE);
        noneIsNotTorn(x, 1, 0, 0);
        noneIsNotTorn(x, 1, 2, 99);
        noneIsNotTorn(x, 2, 0, 0);
        noneIsNotTorn(x, 2, 1, 0);
        noneIsNotTorn(x, 0, 0, 0);
        noneIsNotTorn(x, 0, 2, -1);
        CHECKS.due("none came", x.count(1), 0);
    }

    private static void noneIsNotTorn(SwipedStripe x, int k, int lane, int f) {
        CHECKS.due("load as INTS", x.load(1, 2, 0, 1), 0);
        CHECKS.due("torn: CAST", x.torn(), 3);
        CHECKS.due("load of 0 of sheet " + k + " as lane " + lane + " from " + f, x.load(k, lane, f, 0), 0);
        CHECKS.due("torn of sheet " + k + " as lane " + lane + " from " + f, x.torn(), 0);
    }

    private static void loadRefused() {
        SwipedStripe x = laid(2, 10, 0, 10000, 40, -5);
        CHECKS.due("load beyond the end", x.load(1, 2, 3, 1), 1);
        CHECKS.due("INDEX", x.load(1, 2, 5, 1), 0);
        int sum = x.count(2);
        CHECKS.due("sheet -1", x.load(-1, 2, 0, 1), -1);
        CHECKS.due("sheet 4", x.load(4, 2, 0, 1), -1);
        CHECKS.due("lane -1", x.load(1, -1, 0, 1), -1);
        CHECKS.due("lane 3", x.load(1, 3, 0, 1), -1);
        CHECKS.due("n -1", x.load(1, 2, 0, -1), -1);
        CHECKS.due("n 65", x.load(1, 2, 0, 65), -1);
        CHECKS.due("cell 1 is 0", x.load(1, 2, 0, 5), -21);
        CHECKS.due("cell 1 is 0", x.load(1, 2, 1, 5), -20);
        CHECKS.due("cell 2 is 10000", x.load(1, 2, 2, 1), -20);
        CHECKS.due("cell 4 is below 0, ahead of the end", x.load(1, 2, 3, 64), -21);
        CHECKS.due("none came", x.count(1), 1);
        CHECKS.due("none came", x.count(2), sum);
        CHECKS.due("torn", x.torn(), 2);
    }

    private static void loadFull() {
        SwipedStripe x = laid(2, 7, 7, 7, 0);
        Hand.gaps(x, java.util.stream.IntStream.generate(() -> 9).limit(318).toArray());
        CHECKS.due("318", x.count(1), 318);
        CHECKS.due("3 more", x.load(1, 2, 0, 3), -3);
        CHECKS.due("none came", x.count(1), 318);
        CHECKS.due("FULL is met ahead of the cell that is 0", x.load(1, 2, 0, 4), -3);
        CHECKS.due("the cell that is 0 is met ahead of FULL", x.load(1, 2, 2, 2), -21);
        CHECKS.due("the cell that is 0 is met as FULL would be", x.load(1, 2, 1, 3), -22);
        x.sheet(2, 2, 2);
        x.lay(2, 0, 5);
        x.lay(2, 1, 6);
        CHECKS.due("the machine refuses ahead of FULL", x.load(2, 2, 0, 64), 2);
        CHECKS.due("torn", x.torn(), 2);
        CHECKS.due("320", x.count(1), 320);
        CHECKS.due("one more", x.load(2, 2, 0, 1), -3);
        CHECKS.due("none more", x.load(2, 2, 0, 0), 0);
        CHECKS.due("torn", x.torn(), 0);
        CHECKS.due("the machine refuses the first", x.load(2, 2, 2, 1), 0);
        CHECKS.due("another lane", x.load(2, 1, 0, 1), 0);
        CHECKS.due("torn", x.torn(), 3);
        CHECKS.due("the last", x.gap(319), 6);
    }

    private static void wipe() {
        SwipedStripe x = new SwipedStripe();
        CHECKS.due("wipe of none", x.wipe(), 0);
        x.add(3);
        x.write(50, 0, 0, 0);
        x.keep();
        CHECKS.due("wipe", x.wipe(), x.stripe(0) + x.stripe(1));
        CHECKS.due("no gaps", x.count(1), 0);
        CHECKS.due("no gap 0", x.gap(0), -1);
        CHECKS.due("the row stays", x.count(0), 1);
        CHECKS.due("draws stay", x.count(3), 1);
    }

    private static void count() {
        SwipedStripe x = new SwipedStripe();
        CHECKS.due("count(-1)", x.count(-1), -1);
        CHECKS.due("count(6)", x.count(6), -1);
        x.add(3);
        x.add(4);
        Hand.gaps(x, 10, 200, 3000);
        x.feed(1);
        x.sheet(0, 0, 9);
        x.sheet(1, 0, 8);
        int[] due = {2, 3, 3210, 0, 8, 9};
        for (int what = 0; what < due.length; what++) {
            CHECKS.due("count(" + what + ")", x.count(what), due[what]);
        }
        Hand.gaps(x, java.util.stream.IntStream.generate(() -> 9999).limit(320).toArray());
        CHECKS.due("the longest of all", x.count(2), 320 * 9999);
        x.write(50, 0, 0, 0);
        x.keep();
        CHECKS.due("draws", x.count(3), 1);
    }
}
