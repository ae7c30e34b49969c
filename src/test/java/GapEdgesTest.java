import java.util.Arrays;

/** Promises 12 to 17 at their edges: GAPS none, one and 320, of 1 and of 9999; each bound of a write, and its seeds. */
public final class GapEdgesTest {
    private static final Checks CHECKS = new Checks();
    /** THE STRIPE of small(): LEAD, the SYMBOLS 1 and 2, TAIL. */
    private static final String SMALL_BITS = "0" + "1001" + "0101" + "0";
    /** What the C language's own example of a random function draws from the seed 1: the same reckoning as here. */
    private static final int[] DRAWN_FROM_1 = {16838, 5758, 10113, 17515, 31051, 5627, 23010, 7419, 16212, 4086};

    public static void main(String[] args) {
        writeBounds();
        writeEachUnit();
        writeEachChange();
        writeSeeds();
        writeEachSway();
        writeTheLongest();
        gap();
        alter();
        miss();
        split();
        splitToTheFull();
        turn();
        CHECKS.finish();
    }

    /** The shortest stripe there is. */
    private static SwipedStripe small() {
        SwipedStripe x = new SwipedStripe();
        Hand.tell(x, "even;bits 3;begin 1;close 2;plain;lead 1;tail 1;");
        return x;
    }

    private static void gapsAre(SwipedStripe x, String when, int... due) {
        CHECKS.due("how many " + when, x.count(1), due.length);
        for (int i = 0; i < due.length; i++) {
            CHECKS.due("gap(" + i + ") " + when, x.gap(i), due[i]);
        }
        CHECKS.due("gap beyond " + when, x.gap(due.length), -1);
        CHECKS.due("all of them " + when, x.count(2), Arrays.stream(due).sum());
    }

    private static void writeBounds() {
        SwipedStripe x = small();
        CHECKS.bad("unit", n -> x.write(n, 0, 0, 0), -1, 0, 3, 1000);
        CHECKS.bad("change", n -> x.write(100, n, 0, 0), -51, 51);
        CHECKS.bad("J", n -> x.write(100, 0, n, 0), -1, 100);
        CHECKS.due("none is written", x.count(1), 0);
        for (int unit : new int[] {4, 999}) {
            for (int change : new int[] {-50, 50}) {
                for (int j : new int[] {0, 99}) {
                    for (int seed : new int[] {Integer.MIN_VALUE, -1, 0, 1, Integer.MAX_VALUE}) {
                        String call = "write(" + unit + ", " + change + ", " + j + ", " + seed + ")";
                        SwipedStripe y = small();
                        CHECKS.due(call, y.write(unit, change, j, seed), 14);
                        gapsAre(y, "of " + call, written(SMALL_BITS, unit, change, j, seed));
                    }
                }
            }
        }
    }

    /** THE STRIPE as GAPS, reckoned with longs: the seed as what is left of it by 2 to the 32. */
    private static int[] written(String bits, int unit, int change, int j, int seed) {
        int[] gaps = new int[bits.length() + bits.replace("0", "").length()];
        int n = 0;
        long s = seed & 0xffffffffL;
        for (int i = 0; i < bits.length(); i++) {
            int u = unit + i * change;
            u = u < 4 ? 4 : u > 999 ? 999 : u;
            int[] parts = bits.charAt(i) == '0' ? new int[] {u} : new int[] {u / 2, (u + 1) / 2};
            for (int part : parts) {
                int g = part;
                if (j > 0) {
                    s = (s * 1103515245L + 12345) % 4294967296L;
                    g += (int) (s / 65536 % 32768 % (2 * j + 1)) - j;
                }
                gaps[n++] = g < 1 ? 1 : g;
            }
        }
        return gaps;
    }

    private static void writeEachUnit() {
        SwipedStripe x = small();
        x.write(4, 0, 0, 0);
        gapsAre(x, "of 4", 4, 2, 2, 4, 4, 2, 2, 4, 2, 2, 4, 2, 2, 4);
        x.write(5, 0, 0, 0);
        gapsAre(x, "of 5", 5, 2, 3, 5, 5, 2, 3, 5, 2, 3, 5, 2, 3, 5);
        x.write(999, 0, 0, 0);
        gapsAre(x, "of 999", 999, 499, 500, 999, 999, 499, 500, 999, 499, 500, 999, 499, 500, 999);
        for (int unit = 4; unit <= 999; unit++) {
            SwipedStripe y = small();
            CHECKS.due("write of " + unit, y.write(unit, 0, 0, unit), 14);
            CHECKS.due("a 0", y.gap(0), unit);
            CHECKS.due("the first of a 1", y.gap(1), Math.floorDiv(unit, 2));
            CHECKS.due("the rest of it", y.gap(2), unit - Math.floorDiv(unit, 2));
        }
    }

    private static void writeEachChange() {
        SwipedStripe x = small();
        x.write(5, -1, 0, 0);
        gapsAre(x, "of 5 and below, 4 at least", 5, 2, 2, 4, 4, 2, 2, 4, 2, 2, 4, 2, 2, 4);
        x.write(6, -1, 0, 0);
        gapsAre(x, "of 6 and below, 4 at least", 6, 2, 3, 4, 4, 2, 2, 4, 2, 2, 4, 2, 2, 4);
        x.write(998, 1, 0, 0);
        gapsAre(x, "of 998 and above, 999 at most", 998, 499, 500, 999, 999, 499, 500, 999, 499, 500, 999, 499, 500,
                999);
        x.write(997, 1, 0, 0);
        gapsAre(x, "of 997 and above, 999 at most", 997, 499, 499, 999, 999, 499, 500, 999, 499, 500, 999, 499, 500,
                999);
        for (int change = -50; change <= 50; change++) {
            for (int unit : new int[] {4, 5, 60, 454, 549, 998, 999}) {
                SwipedStripe y = small();
                y.write(unit, change, 0, 0);
                gapsAre(y, "of " + unit + " and " + change, written(SMALL_BITS, unit, change, 0, 0));
            }
        }
    }

    private static void writeSeeds() {
        SwipedStripe x = small();
        int[] even = {500, 250, 250, 500, 500, 250, 250, 500, 250, 250};
        for (int j : new int[] {1, 2, 50, 98, 99}) {
            x.write(500, 0, j, 1);
            for (int i = 0; i < even.length; i++) {
                CHECKS.due("gap(" + i + ") swaying by " + j, x.gap(i), even[i] + DRAWN_FROM_1[i] % (2 * j + 1) - j);
            }
        }
        // from 0: 12345, whose bits 16 to 30 are 0; from the least int: the same, as only bit 31 is another one
        firstSways(0, 0);
        firstSways(Integer.MIN_VALUE, 0);
        // from -1: -1103502900, which is 3191464396 by 2 to the 32: 48697 above bit 16, 15929 without bit 31
        firstSways(-1, 15929);
        // from the greatest int: as from -1, as only bit 31 is another one
        firstSways(Integer.MAX_VALUE, 15929);
        firstSways(1, 16838);
    }

    private static void firstSways(int seed, int drawn) {
        SwipedStripe x = small();
        for (int j = 1; j <= 99; j++) {
            x.write(500, 0, j, seed);
            CHECKS.due("the first gap of the seed " + seed + " by " + j, x.gap(0), 500 + drawn % (2 * j + 1) - j);
        }
        x.write(500, 0, 0, seed);
        gapsAre(x, "of J 0 and the seed " + seed, written(SMALL_BITS, 500, 0, 0, 0));
    }

    /** Each J with the least unit: GAPS are 1 at least. */
    private static void writeEachSway() {
        int ones = 0;
        for (int j = 0; j <= 99; j++) {
            SwipedStripe x = small();
            int[] due = written(SMALL_BITS, 4, 0, j, 77 * j);
            CHECKS.due("write by " + j, x.write(4, 0, j, 77 * j), due.length);
            gapsAre(x, "swaying by " + j, due);
            ones += Arrays.stream(due).filter(g -> g == 1).count();
        }
        CHECKS.holds("many of them would have been less than 1", ones > 300);
        SwipedStripe x = small();
        // the seed 0 draws 0 first: 4 less J
        int[] first = {4, 3, 2, 1, 1, 1};
        for (int j = 0; j < first.length; j++) {
            x.write(4, 0, j, 0);
            CHECKS.due("4 less " + j, x.gap(0), first[j]);
        }
    }

    /** No stripe has more than 320 GAPS: FULL is out of reach, and those with the most of them are written. */
    private static void writeTheLongest() {
        int most = 0;
        for (String parity : new String[] {"odd;", "even;"}) {
            for (int v : new int[] {63, 31, 59}) {
                SwipedStripe x = new SwipedStripe();
                Hand.tell(x, "bits 6;begin 62;close 61;lead 20;tail 20;" + parity);
                for (int n = 0; n < 16; n++) {
                    CHECKS.due("add", x.add(v), n + 1);
                }
                int due = 173 + x.stripe(1);
                CHECKS.due("the longest", x.write(60, 0, 0, 0), due);
                CHECKS.due("its gaps", x.count(1), due);
                CHECKS.due("it is well", x.found(0), 0);
                CHECKS.due("its values", x.found(2), 16);
                most = Math.max(most, due);
            }
        }
        CHECKS.due("16 times seven 1s, and 5, 5 and 3", most, 173 + 112 + 13);
    }

    private static void gap() {
        SwipedStripe x = new SwipedStripe();
        CHECKS.bad("gap of none", x::gap, -1, 0, 1);
        Hand.gaps(x, 9999);
        CHECKS.due("gap(0) of one", x.gap(0), 9999);
        CHECKS.bad("gap of one", x::gap, -1, 1, 2);
        Hand.many(x, 320);
        CHECKS.due("gap(319) of 320", x.gap(319), 108);
        CHECKS.bad("gap of 320", x::gap, -1, 320, 321);
    }

    private static void alter() {
        SwipedStripe x = new SwipedStripe();
        CHECKS.bad("alter of none", i -> x.alter(i, 5), -1, 0, 1);
        Hand.gaps(x, 10, 20);
        CHECKS.bad("alter of two", i -> x.alter(i, 5), -1, 2, 3);
        CHECKS.bad("alter to", v -> x.alter(0, v), -1, 0, 10000);
        gapsAre(x, "as they were", 10, 20);
        CHECKS.due("alter(0, 1)", x.alter(0, 1), 10);
        CHECKS.due("alter(1, 9999)", x.alter(1, 9999), 20);
        gapsAre(x, "as altered", 1, 9999);
        CHECKS.due("alter to the same", x.alter(1, 9999), 9999);
        CHECKS.due("alter(0, 2)", x.alter(0, 2), 1);
        CHECKS.due("alter(1, 9998)", x.alter(1, 9998), 9999);
        gapsAre(x, "as altered again", 2, 9998);
        Hand.many(x, 320);
        CHECKS.due("alter the last of 320", x.alter(319, 7), 108);
        CHECKS.bad("alter of 320", i -> x.alter(i, 5), -1, 320);
        CHECKS.due("the last of 320", x.gap(319), 7);
    }

    private static void misses(int first, int second, int due) {
        SwipedStripe x = new SwipedStripe();
        Hand.gaps(x, 3, first, second, 5);
        CHECKS.due("miss of " + first + " and " + second, x.miss(1), 3);
        gapsAre(x, "of " + first + " and " + second, 3, due, 5);
    }

    private static void miss() {
        misses(1, 1, 2);
        misses(4999, 4999, 9998);
        misses(5000, 4999, 9999);
        misses(5000, 5000, 9999);
        misses(9998, 1, 9999);
        misses(9999, 1, 9999);
        misses(9999, 9999, 9999);
        SwipedStripe x = new SwipedStripe();
        CHECKS.bad("miss of none", x::miss, -1, 0, 1);
        Hand.gaps(x, 8);
        CHECKS.bad("miss of one", x::miss, -1, 0, 1);
        Hand.gaps(x, 8, 9);
        CHECKS.bad("miss of two", x::miss, -1, 1, 2);
        gapsAre(x, "as they were", 8, 9);
        CHECKS.due("miss(0) of two", x.miss(0), 1);
        gapsAre(x, "as one", 17);
        Hand.many(x, 320);
        CHECKS.bad("miss of 320", x::miss, -1, 319, 320);
        CHECKS.due("miss(318) of 320", x.miss(318), 319);
        CHECKS.due("the last two", x.gap(318), 215);
        CHECKS.due("none behind", x.gap(319), -1);
        CHECKS.due("miss(0) of 319", x.miss(0), 318);
        CHECKS.due("the first two", x.gap(0), 203);
        CHECKS.due("the next one", x.gap(1), 103);
        CHECKS.due("the last one", x.gap(317), 215);
    }

    private static void split() {
        SwipedStripe x = new SwipedStripe();
        CHECKS.bad("split of none", i -> x.split(i, 1), -1, 0, 1);
        Hand.gaps(x, 9999, 2, 1);
        CHECKS.bad("split of three", i -> x.split(i, 1), -1, 3, 4);
        CHECKS.bad("split of 9999", v -> x.split(0, v), -1, 0, 9999, 10000);
        CHECKS.bad("split of 2", v -> x.split(1, v), -1, 0, 2, 3);
        CHECKS.bad("split of 1", v -> x.split(2, v), -1, 0, 1, 2);
        gapsAre(x, "as they were", 9999, 2, 1);
        CHECKS.due("split of 2", x.split(1, 1), 4);
        gapsAre(x, "of 1 and 1", 9999, 1, 1, 1);
        CHECKS.due("split of 9999", x.split(0, 9998), 5);
        gapsAre(x, "of 9998 and 1", 9998, 1, 1, 1, 1);
        CHECKS.due("split of 9998", x.split(0, 1), 6);
        gapsAre(x, "of 1 and 9997", 1, 9997, 1, 1, 1, 1);
        x.alter(5, 7);
        CHECKS.due("split of the last", x.split(5, 3), 7);
        gapsAre(x, "of 3 and 4", 1, 9997, 1, 1, 1, 3, 4);
    }

    private static void splitToTheFull() {
        for (int n = 318; n <= 320; n++) {
            for (int i : new int[] {0, 1, n - 1}) {
                SwipedStripe x = new SwipedStripe();
                Hand.many(x, n);
                int was = x.gap(i);
                boolean room = n < 320;
                CHECKS.due("split(" + i + ", 100) of " + n, x.split(i, 100), room ? n + 1 : -3);
                CHECKS.due("gaps then", x.count(1), room ? n + 1 : n);
                CHECKS.due("the first of both", x.gap(i), room ? 100 : was);
                CHECKS.due("the rest", x.gap(i + 1), room ? was - 100 : i + 1 < n ? 101 + (i + 1) % 8 : -1);
                CHECKS.due("the last", x.gap(x.count(1) - 1), room && i == n - 1 ? was - 100 : 101 + (n - 1) % 8);
            }
        }
        SwipedStripe x = new SwipedStripe();
        Hand.many(x, 320);
        CHECKS.bad("BAD ahead of FULL: split at", i -> x.split(i, 1), -1, 320);
        CHECKS.bad("BAD ahead of FULL: split by", v -> x.split(0, v), -1, 0, 101, 102);
        CHECKS.due("FULL", x.split(0, 1), -3);
        CHECKS.due("FULL", x.split(319, 107), -3);
    }

    private static void turn() {
        SwipedStripe x = new SwipedStripe();
        CHECKS.due("turn of none", x.turn(), 0);
        CHECKS.due("still none", x.count(1), 0);
        for (int n = 1; n <= 7; n++) {
            int[] gaps = new int[n];
            int[] turned = new int[n];
            for (int i = 0; i < n; i++) {
                gaps[i] = i == 0 ? 9999 : i;
                turned[n - 1 - i] = gaps[i];
            }
            SwipedStripe y = new SwipedStripe();
            Hand.gaps(y, gaps);
            CHECKS.due("turn of " + n, y.turn(), n);
            gapsAre(y, "turned", turned);
            CHECKS.due("turn back", y.turn(), n);
            gapsAre(y, "turned back", gaps);
        }
        Hand.many(x, 320);
        CHECKS.due("turn of 320", x.turn(), 320);
        for (int i = 0; i < 320; i++) {
            CHECKS.due("gap(" + i + ") turned", x.gap(i), 108 - i % 8);
        }
    }
}
