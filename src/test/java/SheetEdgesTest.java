/** Promises 32 to 37 at their edges: SHEETS of nothing, of no CELLS and of 64; loads torn, refused, to the full. */
public final class SheetEdgesTest {
    private static final Checks CHECKS = new Checks();

    public static void main(String[] args) {
        sheetRefused();
        sheetSizes();
        sheetAnew();
        layRefused();
        lowestBits();
        loadRefused();
        loadSizes();
        loadFrom();
        loadTorn();
        loadOfWhatIsNoGap();
        loadToTheFull();
        firstMet();
        torn();
        wipe();
        count();
        CHECKS.finish();
    }

    private static SwipedStripe laid(int lane, int... cells) {
        SwipedStripe x = new SwipedStripe();
        x.sheet(1, lane, cells.length);
        for (int i = 0; i < cells.length; i++) {
            x.lay(1, i, cells[i]);
        }
        return x;
    }

    private static void sheetRefused() {
        SwipedStripe x = new SwipedStripe();
        CHECKS.bad("sheet", k -> x.sheet(k, 0, 1), -1, 4);
        CHECKS.bad("sheet of a lane", lane -> x.sheet(0, lane, 1), -1, 3);
        for (int n : new int[] {65, 66, Integer.MAX_VALUE - 1, Integer.MAX_VALUE}) {
            CHECKS.due("sheet of " + n, x.sheet(0, 0, n), -1);
        }
        for (int n : new int[] {-1, -2, -64, -65, Integer.MIN_VALUE, Integer.MIN_VALUE + 1}) {
            CHECKS.due("sheet of " + n, x.sheet(0, 0, n), -14);
            CHECKS.bad("BAD ahead of SIZE: sheet", k -> x.sheet(k, 0, n), -1, 4);
            CHECKS.bad("BAD ahead of SIZE: sheet of a lane", lane -> x.sheet(0, lane, n), -1, 3);
        }
        CHECKS.due("there is nothing", x.count(5), -4);
        for (int k = 0; k < 4; k++) {
            CHECKS.due("there is nothing", x.lay(k, 0, 1), -11);
        }
        CHECKS.due("SIZE is none of a load", x.torn(), 0);
    }

    private static void sheetSizes() {
        for (int k = 0; k < 4; k++) {
            for (int lane = 0; lane < 3; lane++) {
                for (int n : new int[] {0, 1, 2, 63, 64}) {
                    SwipedStripe x = new SwipedStripe();
                    String of = " of sheet(" + k + ", " + lane + ", " + n + ")";
                    CHECKS.due("answer" + of, x.sheet(k, lane, n), 1);
                    CHECKS.due("cells" + of, x.count(5), k == 0 ? n : -4);
                    CHECKS.due("a cell ahead" + of, x.lay(k, -1, 1), -12);
                    CHECKS.due("the first cell" + of, x.lay(k, 0, 1), n == 0 ? -12 : 1);
                    CHECKS.due("the last cell" + of, x.lay(k, n - 1, 1), n == 0 ? -12 : 1);
                    CHECKS.due("a cell behind" + of, x.lay(k, n, 1), -12);
                    CHECKS.due("others have nothing" + of, x.lay((k + 1) % 4, 0, 1), -11);
                }
            }
        }
    }

    /** A new SHEET is of its own lane and length, and its CELLS are 0, whatever was there. */
    private static void sheetAnew() {
        SwipedStripe x = laid(2, 7, 8, 9);
        CHECKS.due("the same again", x.sheet(1, 2, 3), 1);
        for (int i = 0; i < 3; i++) {
            CHECKS.due("cell " + i + " is 0", x.load(1, 2, i, 1), -20);
        }
        CHECKS.due("a longer one", x.sheet(1, 2, 4), 1);
        CHECKS.due("its last cell is 0", x.load(1, 2, 3, 1), -20);
        x.lay(1, 3, 5);
        CHECKS.due("a shorter one", x.sheet(1, 2, 2), 1);
        CHECKS.due("a cell less", x.lay(1, 2, 1), -12);
        CHECKS.due("a longer one again", x.sheet(1, 2, 4), 1);
        CHECKS.due("its last cell is 0", x.load(1, 2, 3, 1), -20);
        CHECKS.due("of another lane", x.sheet(1, 0, 4), 1);
        CHECKS.due("its last cell is 0", x.load(1, 0, 3, 1), -20);
        CHECKS.due("it is of the old one no more", x.load(1, 2, 3, 1), 0);
        CHECKS.due("torn", x.torn(), 3);
        x.lay(1, 0, 6);
        x.sheet(0, 0, 1);
        x.sheet(2, 0, 1);
        CHECKS.due("others are left alone", x.load(1, 0, 0, 1), 1);
        CHECKS.due("gap", x.gap(0), 6);
        CHECKS.due("of no cells", x.sheet(1, 0, 0), 1);
        CHECKS.due("none is left", x.load(1, 0, 0, 1), 0);
        CHECKS.due("torn", x.torn(), 2);
        CHECKS.due("gaps stay", x.gap(0), 6);
    }

    private static void layRefused() {
        SwipedStripe x = laid(2, 7, 8);
        CHECKS.bad("lay on", k -> x.lay(k, 0, 1), -1, 4);
        CHECKS.bad("BAD ahead of INDEX: lay on", k -> x.lay(k, -1, 1), -1, 4);
        for (int i : new int[] {-1, 2, 64, Integer.MIN_VALUE, Integer.MIN_VALUE + 1, Integer.MAX_VALUE}) {
            CHECKS.due("lay on cell " + i, x.lay(1, i, 1), -12);
            CHECKS.due("lay on cell " + i + " of nothing", x.lay(0, i, 1), -11);
        }
        CHECKS.due("cells stay", x.load(1, 2, 0, 2), 2);
        CHECKS.due("gap(0)", x.gap(0), 7);
        CHECKS.due("gap(1)", x.gap(1), 8);
        CHECKS.due("INDEX and NULL are none of a load", x.torn(), 0);
    }

    /** What a CELL of each lane makes of a number: its lowest 8, 16, 32 bits, the highest of them a sign. */
    private static void lowestBits() {
        int[] numbers = {0, 1, 127, 128, 129, 255, 256, 257, 383, 384, 9999, 10000, 32767, 32768, 32769, 65535, 65536,
            65537, 75535, 75536, 98304, 1 << 24, (1 << 24) + 5, -1, -127, -128, -129, -255, -256, -32767, -32768, -32769,
            -65535, -65536, Integer.MAX_VALUE, Integer.MIN_VALUE, Integer.MIN_VALUE + 1, Integer.MIN_VALUE + 300};
        long[] modulus = {256, 65536, 4294967296L};
        for (int lane = 0; lane < 3; lane++) {
            for (int v : numbers) {
                long low = Math.floorMod((long) v, modulus[lane]);
                long cell = low < modulus[lane] / 2 ? low : low - modulus[lane];
                boolean isGap = cell >= 1 && cell <= 9999;
                SwipedStripe x = new SwipedStripe();
                x.sheet(3, lane, 1);
                CHECKS.due("lay of " + v + " in lane " + lane, x.lay(3, 0, v), 1);
                CHECKS.due("load of " + v + " in lane " + lane, x.load(3, lane, 0, 1), isGap ? 1 : -20);
                CHECKS.due("gap of " + v + " in lane " + lane, x.gap(0), isGap ? cell : -1);
            }
        }
    }

    private static void loadRefused() {
        SwipedStripe x = laid(2, 7, 8);
        CHECKS.bad("load of", k -> x.load(k, 2, 0, 1), -1, 4);
        CHECKS.bad("load of a lane", lane -> x.load(1, lane, 0, 1), -1, 3);
        CHECKS.bad("load of so many", n -> x.load(1, 2, 0, n), -1, 65);
        // BAD ahead of what the machine finds, with nothing there, beyond the end, of another lane
        CHECKS.bad("load of nothing, of so many", n -> x.load(0, 2, 0, n), -1, 65);
        CHECKS.bad("load beyond, of so many", n -> x.load(1, 2, 2, n), -1, 65);
        CHECKS.bad("load of another lane, of so many", n -> x.load(1, 0, 0, n), -1, 65);
        CHECKS.bad("load of nothing, of a lane", lane -> x.load(0, lane, 0, 0), -1, 3);
        CHECKS.due("none came", x.count(1), 0);
        CHECKS.due("torn", x.torn(), 0);
    }

    private static void loadSizes() {
        SwipedStripe x = new SwipedStripe();
        x.sheet(0, 2, 64);
        for (int i = 0; i < 64; i++) {
            x.lay(0, i, i == 0 ? 1 : i == 63 ? 9999 : i);
        }
        for (int n : new int[] {0, 1, 2, 63, 64}) {
            x.wipe();
            CHECKS.due("load of " + n, x.load(0, 2, 0, n), n);
            CHECKS.due("torn", x.torn(), 0);
            CHECKS.due("gaps", x.count(1), n);
            CHECKS.due("the first", x.gap(0), n == 0 ? -1 : 1);
            CHECKS.due("the last", x.gap(n - 1), n == 0 ? -1 : n == 64 ? 9999 : Math.max(1, n - 1));
            CHECKS.due("none behind", x.gap(n), -1);
        }
        x.wipe();
        CHECKS.due("load of one", x.load(0, 2, 5, 1), 1);
        CHECKS.due("load behind it", x.load(0, 2, 63, 1), 1);
        CHECKS.due("the first", x.gap(0), 5);
        CHECKS.due("behind it", x.gap(1), 9999);
    }

    /** From each CELL on, and from where there is none: those ahead of the end come. */
    private static void loadFrom() {
        for (int f = -3; f <= 5; f++) {
            for (int n = 0; n <= 6; n++) {
                SwipedStripe x = laid(1, 11, 12, 13);
                int came = f < 0 || f > 3 ? 0 : Math.min(n, 3 - f);
                String call = "load(1, 1, " + f + ", " + n + ")";
                CHECKS.due(call, x.load(1, 1, f, n), came);
                CHECKS.due("torn of " + call, x.torn(), came < n ? 2 : 0);
                CHECKS.due("gaps of " + call, x.count(1), came);
                for (int i = 0; i < came; i++) {
                    CHECKS.due("gap(" + i + ") of " + call, x.gap(i), 11 + f + i);
                }
            }
        }
        SwipedStripe x = laid(1, 11, 12, 13);
        for (int f : new int[] {Integer.MIN_VALUE, Integer.MIN_VALUE + 1, -64, Integer.MAX_VALUE - 63,
            Integer.MAX_VALUE - 1, Integer.MAX_VALUE}) {
            for (int n : new int[] {0, 1, 2, 64}) {
                CHECKS.due("load from " + f + " of " + n, x.load(1, 1, f, n), 0);
                CHECKS.due("torn from " + f + " of " + n, x.torn(), n == 0 ? 0 : 2);
            }
        }
        CHECKS.due("none came", x.count(1), 0);
    }

    /** Each lane taken as of each other, nothing, no CELLS: what the machine finds, and not with n 0. */
    private static void loadTorn() {
        for (int lane = 0; lane < 3; lane++) {
            for (int as = 0; as < 3; as++) {
                for (int n : new int[] {0, 1, 2, 64}) {
                    for (int f : new int[] {-1, 0, 1, 2}) {
                        SwipedStripe x = laid(lane, 5, 6);
                        int came = as != lane || f < 0 ? 0 : Math.min(n, 2 - f);
                        String call = "load(1, " + as + ", " + f + ", " + n + ") of lane " + lane;
                        CHECKS.due(call, x.load(1, as, f, n), came);
                        CHECKS.due("torn of " + call, x.torn(), came == n ? 0 : as != lane ? 3 : 2);
                        CHECKS.due("gaps of " + call, x.count(1), came);
                        // nothing is nothing as of any lane
                        CHECKS.due("load of nothing", x.load(0, as, f, n), 0);
                        CHECKS.due("torn of nothing", x.torn(), n == 0 ? 0 : 1);
                        x.sheet(2, lane, 0);
                        CHECKS.due("load of no cells", x.load(2, as, f, n), 0);
                        CHECKS.due("torn of no cells", x.torn(), n == 0 ? 0 : as != lane ? 3 : 2);
                    }
                }
            }
        }
    }

    /** A CELL that is 0, below 0 or above 9999, at the first, in the midst, at the last of 64: then none came. */
    private static void loadOfWhatIsNoGap() {
        for (int v : new int[] {0, -1, 10000, Integer.MIN_VALUE, Integer.MAX_VALUE}) {
            for (int at : new int[] {0, 1, 31, 62, 63}) {
                SwipedStripe x = new SwipedStripe();
                x.sheet(0, 2, 64);
                for (int i = 0; i < 64; i++) {
                    x.lay(0, i, i == at ? v : i % 2 == 0 ? 1 : 9999);
                }
                String of = " with " + v + " at " + at;
                CHECKS.due("load of 64" + of, x.load(0, 2, 0, 64), -20 - at);
                CHECKS.due("none came" + of, x.count(1), 0);
                CHECKS.due("load up to it" + of, x.load(0, 2, 0, at), at);
                CHECKS.due("load from it on" + of, x.load(0, 2, at, 1), -20);
                CHECKS.due("load from behind it" + of, x.load(0, 2, at + 1, 63 - at), 63 - at);
                CHECKS.due("all but it" + of, x.count(1), 63);
            }
        }
    }

    private static void loadToTheFull() {
        for (int had = 255; had <= 320; had++) {
            SwipedStripe x = new SwipedStripe();
            Hand.many(x, had);
            x.sheet(0, 0, 64);
            for (int i = 0; i < 64; i++) {
                x.lay(0, i, 1 + i);
            }
            int room = 320 - had;
            if (room < 64) {
                CHECKS.due("one too many behind " + had, x.load(0, 0, 0, room + 1), -3);
                CHECKS.due("64 behind " + had, x.load(0, 0, 0, 64), -3);
                CHECKS.due("none came", x.count(1), had);
                CHECKS.due("none came", x.gap(had), -1);
            }
            int n = Math.min(room, 64);
            CHECKS.due("what has room behind " + had, x.load(0, 0, 0, n), n);
            CHECKS.due("gaps then", x.count(1), had + n);
            CHECKS.due("the last", x.gap(had + n - 1), n == 0 ? 108 : n);
            CHECKS.due("torn", x.torn(), 0);
        }
    }

    /** CELL by CELL: what the machine finds, then what is no GAP, then that there is no room. */
    private static void firstMet() {
        SwipedStripe x = laid(2, 7, 7, 0, 7);
        Hand.many(x, 319);
        CHECKS.due("no room at cell 1, ahead of the 0 in cell 2", x.load(1, 2, 0, 3), -3);
        CHECKS.due("the 0 in cell 2, where there is no room either", x.load(1, 2, 1, 2), -21);
        CHECKS.due("the 0 in cell 2, at the first", x.load(1, 2, 2, 2), -20);
        CHECKS.due("319 stay", x.count(1), 319);
        CHECKS.due("the end behind cell 3, where there is no room either", x.load(1, 2, 3, 64), 1);
        CHECKS.due("torn", x.torn(), 2);
        CHECKS.due("320 then", x.count(1), 320);
        CHECKS.due("FULL", x.load(1, 2, 0, 1), -3);
        CHECKS.due("the 0 in a full one", x.load(1, 2, 2, 1), -20);
        CHECKS.due("none is asked for", x.load(1, 2, 0, 0), 0);
        CHECKS.due("torn", x.torn(), 0);
        CHECKS.due("beyond the end of a full one", x.load(1, 2, 4, 1), 0);
        CHECKS.due("torn", x.torn(), 2);
        CHECKS.due("another lane of a full one", x.load(1, 1, 0, 1), 0);
        CHECKS.due("torn", x.torn(), 3);
        CHECKS.due("nothing of a full one", x.load(0, 1, 0, 1), 0);
        CHECKS.due("torn", x.torn(), 1);
        CHECKS.due("320 stay", x.count(1), 320);
        CHECKS.due("the 0 ahead of the end", laid(2, 7, 0).load(1, 2, 0, 3), -21);
        CHECKS.due("another lane ahead of the 0", laid(2, 0, 0).load(1, 1, 0, 2), 0);
    }

    /** Of the latest load that came to an end: what is refused, and what is no load, leaves it as it is. */
    private static void torn() {
        SwipedStripe x = laid(2, 7, 0);
        int[] due = {1, 2, 3, 0};
        for (int fault : due) {
            if (fault == 0) {
                x.load(1, 2, 0, 1);
            } else {
                x.load(fault == 1 ? 0 : 1, fault == 3 ? 1 : 2, 2, 1);
            }
            CHECKS.due("torn", x.torn(), fault);
            CHECKS.due("BAD", x.load(4, 2, 0, 1), -1);
            CHECKS.due("torn behind BAD", x.torn(), fault);
            CHECKS.due("a 0", x.load(1, 2, 0, 2), -21);
            CHECKS.due("torn behind a 0", x.torn(), fault);
            CHECKS.due("SIZE", x.sheet(1, 2, -1), -14);
            CHECKS.due("NULL", x.lay(0, 0, 1), -11);
            CHECKS.due("INDEX", x.lay(1, 2, 1), -12);
            x.wipe();
            Hand.tell(x, "odd;");
            CHECKS.due("torn behind calls that are no load", x.torn(), fault);
        }
        Hand.many(x, 320);
        CHECKS.due("torn", x.torn(), 0);
        x.load(1, 2, 2, 1);
        CHECKS.due("FULL", x.load(1, 2, 0, 1), -3);
        CHECKS.due("torn behind FULL", x.torn(), 2);
    }

    private static void wipe() {
        SwipedStripe x = laid(2, 7);
        CHECKS.due("wipe of none", x.wipe(), 0);
        x.load(1, 2, 0, 1);
        CHECKS.due("wipe of one", x.wipe(), 1);
        CHECKS.due("wipe again", x.wipe(), 0);
        Hand.many(x, 320);
        CHECKS.due("wipe of 320", x.wipe(), 320);
        CHECKS.due("none is left", x.gap(0), -1);
        CHECKS.due("none is left", x.count(1), 0);
        CHECKS.due("none is left", x.count(2), 0);
        CHECKS.due("sheets stay", x.load(1, 2, 0, 1), 1);
    }

    private static void count() {
        SwipedStripe x = new SwipedStripe();
        CHECKS.bad("count", x::count, -1, 6, 7);
        counts(x, 0, 0, 0, 0, 0, -4);
        x.sheet(0, 0, 0);
        x.sheet(1, 0, 64);
        counts(x, 0, 0, 0, 0, 0, 0);
        x.sheet(0, 0, 64);
        for (int n = 0; n < 20; n++) {
            x.add(n % 10);
            x.feed(n);
        }
        x.write(999, 0, 0, 0);
        for (int n = 0; n < 7; n++) {
            x.keep();
        }
        counts(x, 16, x.stripe(0) + x.stripe(1), 999 * x.stripe(0), 6, 160, 64);
        CHECKS.bad("count", x::count, -1, 6, 7);
        x.wipe();
        x.lay(0, 0, 1);
        x.sheet(1, 1, 64);
        for (int i = 0; i < 64; i++) {
            x.lay(1, i, 9999);
        }
        for (int n = 0; n < 5; n++) {
            x.load(1, 1, 0, 64);
        }
        counts(x, 16, 320, 3199680, 6, 160, 64);
    }

    private static void counts(SwipedStripe x, int... due) {
        for (int what = 0; what < due.length; what++) {
            CHECKS.due("count(" + what + ")", x.count(what), due[what]);
        }
    }
}
