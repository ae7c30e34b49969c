import java.util.Arrays;
import java.util.stream.IntStream;

/** Promises 18 to 22 at their edges: where a GAP turns from a 0 into a 1, where READ FAILS, where a SYMBOL just fits. */
public final class ReadEdgesTest {
    private static final Checks CHECKS = new Checks();
    private static final String WELL = "0 11010 01101 11111 01000";

    public static void main(String[] args) {
        readRefused();
        zeroOrOne();
        limits();
        noNextOne();
        slowClock();
        readAgain();
        manyGaps();
        heard();
        foundRefused();
        whereBeginIs();
        whereTheLastSymbolEnds();
        whereReadFails();
        howManyValues();
        howManyAreWrong();
        firstVerdict();
        symbol();
        mendedBits();
        mendedSymbols();
        mendedRefused();
        CHECKS.finish();
    }

    private static SwipedStripe of(String rules, int... gaps) {
        SwipedStripe x = new SwipedStripe();
        Hand.tell(x, rules);
        Hand.gaps(x, gaps);
        return x;
    }

    private static SwipedStripe drawn(String rules, String bits) {
        SwipedStripe x = new SwipedStripe();
        Hand.tell(x, rules);
        Hand.bits(x, bits);
        return x;
    }

    private static void readRefused() {
        SwipedStripe x = new SwipedStripe();
        for (int n = 0; n < 2; n++) {
            CHECKS.bad("read by a clock", c -> x.read(c, 0), -1, 3);
            CHECKS.bad("read for", w -> x.read(0, w), -1, 3);
            CHECKS.bad("read by the last clock for", w -> x.read(2, w), -1, 3);
            for (int clock = 0; clock < 3; clock++) {
                for (int what = 0; what < 3; what++) {
                    // of one gap: a bit, no failure, at none
                    CHECKS.due("read", x.read(clock, what), n == 0 ? -2 : new int[] {1, 0, -4}[what]);
                }
            }
            // what is BAD without GAPS is so with them
            Hand.gaps(x, 1);
        }
    }

    private static void reads(String rules, int clock, int bits, int fails, int at, int... gaps) {
        SwipedStripe x = of(rules, gaps);
        String call = "read of " + Arrays.toString(gaps) + " by " + clock + " " + rules;
        CHECKS.due(call + ": bits", x.read(clock, 0), bits);
        CHECKS.due(call + ": fails", x.read(clock, 1), fails);
        CHECKS.due(call + ": at", x.read(clock, 2), at);
    }

    /** For each T: the last g of which 4 g is not more than 3 T is half a 1, the next one a 0. */
    private static void zeroOrOne() {
        for (int t : new int[] {1, 2, 3, 4, 5, 6, 7, 8, 99, 100, 101, 5000, 9996, 9997, 9998, 9999}) {
            int most = 3 * t / 4;
            for (int clock = 0; clock < 3; clock++) {
                SwipedStripe x = of("limit 60;clock " + clock + ";", t, most + 1);
                CHECKS.due(most + 1 + " behind " + t, x.heard(1), 0);
                CHECKS.due("bits of it", x.read(clock, 0), 2);
                if (most > 0) {
                    x = of("limit 60;clock " + clock + ";", t, most, Math.max(1, t - most));
                    CHECKS.due(most + " behind " + t, x.heard(1), 1);
                    CHECKS.due("bits of it", x.read(clock, 0), 2);
                    CHECKS.due("it does not fail", x.read(clock, 1), 0);
                }
            }
        }
    }

    /** How far a length may be from T: LIMIT of a hundred parts, and not one more, both ways. */
    private static void limits() {
        for (int limit = 5; limit <= 60; limit++) {
            String rules = "limit " + limit + ";";
            reads(rules, 0, 2, 0, -4, 100, 100 + limit);
            reads(rules, 0, 1, 2, 1, 100, 101 + limit);
            reads(rules, 0, 2, 0, -4, 100, 50, 50 + limit);
            reads(rules, 0, 1, 2, 1, 100, 50, 51 + limit);
            reads(rules, 0, 2, 0, -4, 100, 10, 90 - limit);
            reads(rules, 0, 1, 2, 1, 100, 10, 89 - limit);
            if (limit < 24) {
                reads(rules, 0, 2, 0, -4, 100, 100 - limit);
                reads(rules, 0, 1, 2, 1, 100, 99 - limit);
            }
        }
        // 5 of a hundred parts of 19 are not 1, of 20 they are
        reads("limit 5;", 0, 1, 2, 1, 19, 20);
        reads("limit 5;", 0, 2, 0, -4, 20, 21);
        reads("limit 60;", 0, 1, 2, 1, 1, 2);
        reads("limit 60;", 0, 2, 0, -4, 2, 3);
        reads("limit 60;", 0, 1, 2, 1, 2, 4);
        // of 9999: 5999 and 2 fifths
        reads("limit 60;", 0, 2, 0, -4, 9999, 7499, 8499);
        reads("limit 60;", 0, 1, 2, 1, 9999, 7499, 8500);
        reads("limit 60;", 0, 1, 2, 1, 9999, 1, 3998);
        reads("limit 60;", 0, 2, 0, -4, 9999, 1, 3999);
        reads("limit 60;", 0, 1, 2, 1, 1, 9999);
        reads("limit 60;", 0, 1, 2, 1, 9999, 1, 1);
        reads("limit 60;", 0, 1, 2, 1, 9999, 7499, 9999);
        // at the first of its GAPS; what is behind it is not READ
        reads("", 0, 3, 2, 4, 100, 50, 50, 100, 50, 91, 100, 100);
        reads("", 0, 3, 2, 4, 100, 50, 50, 100, 141, 100, 100);
    }

    private static void noNextOne() {
        reads("", 0, 1, 1, 1, 100, 75);
        reads("", 0, 2, 0, -4, 100, 76);
        reads("", 0, 1, 1, 1, 9999, 1);
        reads("", 0, 2, 1, 3, 100, 50, 50, 50);
        reads("", 0, 3, 0, -4, 100, 50, 50, 50, 50);
        // it has no length of its own, so LIMIT is none to look at
        reads("limit 5;", 0, 1, 1, 1, 100, 1);
        for (int clock = 0; clock < 3; clock++) {
            reads("", clock, 1, 0, -4, 1);
            reads("", clock, 1, 0, -4, 9999);
        }
    }

    /** 3 T and the length by 4, divided down: seen by 8, which is half a 1 behind 11 and a 0 behind 10. */
    private static void slowClock() {
        reads("", 2, 3, 0, -4, 10, 10, 8);
        reads("", 2, 3, 0, -4, 10, 13, 8);
        reads("", 2, 2, 1, 2, 10, 14, 8);
        reads("", 2, 3, 1, 3, 10, 11, 14, 8);
        reads("", 2, 4, 0, -4, 10, 11, 12, 8);
        // 1 by its length, which is both: 10, 7 and 7 are as 10 and 14
        reads("", 2, 2, 1, 3, 10, 7, 7, 8);
        reads("", 2, 3, 0, -4, 10, 7, 6, 8);
        // T stays 1 at least
        reads("", 2, 6, 0, -4, 1, 1, 1, 1, 1, 1);
        reads("limit 60;", 2, 2, 2, 2, 2, 3, 4);
        // the one that follows at once: 8 behind 10, 11 and 14
        reads("", 1, 2, 1, 2, 10, 11, 8);
        reads("", 1, 3, 0, -4, 10, 10, 8);
        reads("", 0, 4, 0, -4, 10, 11, 14, 8);
    }

    /** Each READ begins anew: what another one FAILED at, or had as T, is gone. */
    private static void readAgain() {
        SwipedStripe x = of("", 100, 120, 141, 150);
        for (int n = 0; n < 2; n++) {
            int[][] due = {{2, 2, 2}, {4, 0, -4}, {4, 0, -4}};
            for (int clock = 0; clock < 3; clock++) {
                for (int what = 0; what < 3; what++) {
                    CHECKS.due("read(" + clock + ", " + what + ")", x.read(clock, what), due[clock][what]);
                }
            }
        }
        Hand.gaps(x, 100, 50);
        CHECKS.due("fails", x.read(1, 1), 1);
        CHECKS.due("at", x.read(1, 2), 1);
        Hand.gaps(x, 100);
        CHECKS.due("bits", x.read(1, 0), 1);
        CHECKS.due("fails", x.read(1, 1), 0);
        CHECKS.due("at", x.read(1, 2), -4);
    }

    private static void manyGaps() {
        SwipedStripe x = new SwipedStripe();
        Hand.many(x, 320);
        for (int clock = 0; clock < 3; clock++) {
            CHECKS.due("320 bits", x.read(clock, 0), 320);
            CHECKS.due("no failure", x.read(clock, 1), 0);
            CHECKS.due("at none", x.read(clock, 2), -4);
        }
        CHECKS.due("the last heard", x.heard(319), 0);
        CHECKS.bad("heard of 320", x::heard, -1, 320);
        // a 0 and 159 times a 1 are 319 GAPS, one more is half a 1
        int[] ones = IntStream.range(0, 320).map(i -> i == 0 ? 100 : 50).toArray();
        SwipedStripe y = of("", ones);
        for (int clock = 0; clock < 3; clock++) {
            CHECKS.due("160 bits", y.read(clock, 0), 160);
            CHECKS.due("half a 1 is left", y.read(clock, 1), 1);
            CHECKS.due("at the last gap", y.read(clock, 2), 319);
        }
        CHECKS.due("the last heard", y.heard(159), 1);
        CHECKS.bad("heard of 160", y::heard, -1, 160);
        y.alter(319, 100);
        CHECKS.due("161 bits, the last a 0", y.heard(160), 0);
        CHECKS.due("all are read", y.read(1, 1), 0);
    }

    private static void heard() {
        SwipedStripe x = new SwipedStripe();
        CHECKS.bad("heard of none", x::heard, -1, 0, 1);
        Hand.gaps(x, 100);
        CHECKS.due("heard(0) of one", x.heard(0), 0);
        CHECKS.bad("heard of one", x::heard, -1, 1);
        Hand.gaps(x, 1, 100);
        CHECKS.due("the first is a 0", x.heard(0), 0);
        CHECKS.bad("heard of one and a failure", x::heard, -1, 1, 2);
        Hand.gaps(x, 100, 50, 50, 100, 50);
        int[] due = {0, 1, 0};
        for (int i = 0; i < due.length; i++) {
            CHECKS.due("heard(" + i + ")", x.heard(i), due[i]);
        }
        CHECKS.bad("heard of three and half a 1", x::heard, -1, 3, 4);
    }

    private static void finds(SwipedStripe x, String when, int... due) {
        for (int what = 0; what < 5; what++) {
            CHECKS.due("found(" + what + ") " + when, x.found(what), due[what]);
        }
    }

    private static void finds(String rules, String bits, int... due) {
        finds(drawn(rules, bits), "of " + bits + " " + rules, due);
    }

    private static void foundRefused() {
        SwipedStripe x = new SwipedStripe();
        CHECKS.bad("found without gaps", x::found, -1, 5);
        finds(x, "without gaps", -2, -2, -2, -2, -2);
        Hand.bits(x, WELL);
        CHECKS.bad("found", x::found, -1, 5);
        finds(x, "well", 0, 1, 1, 0, 0);
        x.wipe();
        finds(x, "of wiped gaps", -2, -2, -2, -2, -2);
    }

    private static void whereBeginIs() {
        // at the first bit that there is; at the last at which it has room; a bit short of that
        finds("plain;begin 0;", "00001 11111", 0, 0, 0, 0, 0);
        finds("begin 0;", "00001", 4, 0, -4, -4, -4);
        finds("begin 0;", "0000", 3, -4, -4, -4, -4);
        finds("", "000000 11010", 4, 6, -4, -4, -4);
        finds("", "000000 1101", 3, -4, -4, -4, -4);
        finds("", "0", 3, -4, -4, -4, -4);
        // 0010 has no room ahead of the first bit, though its last three are there
        finds("bits 3;begin 4;close 7;", "0100", 3, -4, -4, -4, -4);
        finds("bits 3;begin 4;close 7;", "0010", 4, 0, -4, -4, -4);
        // with its PARITY, not without it
        finds("", "0 11011 11111 00100", 3, -4, -4, -4, -4);
        finds("even;", "0 11011 11110 00101", 0, 1, 0, 0, 0);
        // the first of two
        finds("plain;", "0 11010 11010 11111", 0, 1, 1, 0, 0);
        // at any bit: also where it takes some of LEAD and of what would have been BEGIN
        finds("plain;bits 3;begin 2;close 7;", "0 0100 1110", 0, 1, 0, 0, 0);
        finds("plain;bits 3;begin 2;close 7;", "01 0100 1110", 0, 2, 0, 0, 0);
        finds("plain;bits 3;begin 2;close 7;", "010 0100 1110", 4, 0, -4, -4, -4);
        finds("bits 6;begin 0;close 63;", "0000001 1111111 1111110", 5, 0, 0, 1, 0);
        finds("bits 6;begin 0;close 63;", "0000001 1111111 1111111", 0, 0, 0, 0, 0);
    }

    private static void whereTheLastSymbolEnds() {
        finds("plain;", "0 11010 11111", 0, 1, 0, 0, 0);
        finds("plain;", "0 11010 1111", 4, 1, -4, -4, -4);
        finds("plain;", "0 11010 01101 11111", 0, 1, 1, 0, 0);
        finds("plain;", "0 11010 01101 1111", 4, 1, -4, -4, -4);
        finds("plain;", "0 11010 01101", 4, 1, -4, -4, -4);
        finds("", "0 11010 01101 11111 01000", 0, 1, 1, 0, 0);
        finds("", "0 11010 01101 11111 0100", 4, 1, -4, -4, -4);
        finds("", "0 11010 01101 11111", 4, 1, -4, -4, -4);
        // CLOSE without its PARITY closes nothing
        finds("plain;", "0 11010 11110", 4, 1, -4, -4, -4);
        finds("plain;", "0 11010 11110 11111", 5, 1, 1, 1, 0);
        // the first CLOSE closes; the checks may look like one
        finds("plain;", "0 11010 11111 11111", 0, 1, 0, 0, 0);
        finds("", "0 11010 11010 11111 11111", 0, 1, 1, 0, 0);
        finds("", "0 11010 11111 11111 00100", 6, 1, 0, 0, 11);
    }

    /** READ FAILS at each bit in turn: ahead of the end of the last SYMBOL it tells, behind it is nothing to tell. */
    private static void whereReadFails() {
        for (String rules : new String[] {"", "plain;"}) {
            String bits = (rules.isEmpty() ? WELL : "0 11010 01101 11111").replace(" ", "");
            for (int n = 1; n <= bits.length(); n++) {
                boolean whole = n == bits.length();
                int begin = n >= 6 ? 1 : -4;
                int rest = whole ? 0 : -4;
                SwipedStripe x = drawn(rules, bits.substring(0, n) + "0");
                x.alter(x.count(1) - 1, 300);
                finds(x, "failing 2 behind " + n, whole ? 0 : 2, begin, whole ? 1 : -4, rest, rest);
                x.alter(x.count(1) - 1, 10);
                finds(x, "failing 1 behind " + n, whole ? 0 : 1, begin, whole ? 1 : -4, rest, rest);
                CHECKS.due("READ does fail", x.read(1, 1), 1);
            }
        }
    }

    private static String many(int n) {
        return "0 1000" + "0001".repeat(n);
    }

    private static void howManyValues() {
        String rules = "bits 3;begin 1;close 2;";
        for (int n : new int[] {0, 1, 31, 32}) {
            finds(rules, many(n) + "0100 1101", 0, 1, n, 0, 0);
            finds(rules + "plain;", many(n) + "0100", 0, 1, n, 0, 0);
            finds(rules, many(n) + "0100", 4, 1, -4, -4, -4);
        }
        for (int n : new int[] {33, 34}) {
            finds(rules, many(n) + "0100 1101", 4, 1, -4, -4, -4);
            finds(rules + "plain;", many(n) + "0100", 4, 1, -4, -4, -4);
            SwipedStripe x = drawn(rules, many(n) + "0100 1101 0");
            x.alter(x.count(1) - 1, 300);
            finds(x, "failing behind more than 32", 2, 1, -4, -4, -4);
        }
        SwipedStripe x = drawn(rules, many(32) + "0100 1101 0");
        x.alter(x.count(1) - 1, 300);
        finds(x, "failing behind 32 and all", 0, 1, 32, 0, 0);
        CHECKS.due("the last of 32", x.symbol(31), 0);
        CHECKS.bad("symbol of 32", x::symbol, -1, 32, 33);
    }

    private static void howManyAreWrong() {
        String rules = "bits 3;begin 1;close 2;";
        // none, one, all of 32 and the checks
        finds(rules, "0 1000" + "0001".repeat(32) + "0100 1101", 0, 1, 32, 0, 0);
        finds(rules, "0 1000" + "0000" + "0001".repeat(31) + "0100 1101", 5, 1, 32, 1, 0);
        finds(rules, "0 1000" + "0001".repeat(31) + "0000" + "0100 1101", 5, 1, 32, 1, 0);
        finds(rules, "0 1000" + "0000".repeat(32) + "0100 1101", 5, 1, 32, 32, 0);
        finds(rules, "0 1000" + "0000".repeat(32) + "0100 1100", 5, 1, 32, 33, 0);
        finds(rules, "0 1000" + "0100 1100", 5, 1, 0, 1, 0);
        finds(rules + "plain;", "0 1000" + "0000".repeat(32) + "0100", 5, 1, 32, 32, 0);
        // each check by itself (its SYMBOL without its PARITY), and all of them; a plain stripe has none
        for (int k = 0; k < 6; k++) {
            char[] checks = "1100001".toCharArray();
            checks[k] ^= 1;
            finds("bits 6;begin 1;close 2;", "0 1000000 0100000 " + new String(checks), 5, 1, 0, 1, 1 << k);
        }
        finds("bits 6;begin 1;close 2;", "0 1000000 0100000 1100001", 0, 1, 0, 0, 0);
        finds("bits 6;begin 1;close 2;", "0 1000000 0100000 0011111", 6, 1, 0, 0, 63);
        finds("bits 6;begin 1;close 2;", "0 1000000 0100000 0011110", 5, 1, 0, 1, 63);
        finds("bits 6;begin 1;close 2;plain;", "0 1000000 0100000 0011110", 0, 1, 0, 0, 0);
        finds("bits 6;begin 1;close 2;", "0 1000000 0100000 0000001", 6, 1, 0, 0, 3);
    }

    private static void firstVerdict() {
        SwipedStripe x = of("", 100, 100, 200);
        finds(x, "2 ahead of 3", 2, -4, -4, -4, -4);
        Hand.gaps(x, 100, 100, 50);
        finds(x, "1 ahead of 3", 1, -4, -4, -4, -4);
        Hand.gaps(x, 100, 100, 100);
        finds(x, "3", 3, -4, -4, -4, -4);
        Hand.bits(x, "0 11010 0");
        finds(x, "4", 4, 1, -4, -4, -4);
        x.alter(x.count(1) - 1, 200);
        finds(x, "2 ahead of 4", 2, 1, -4, -4, -4);
        x.alter(x.count(1) - 1, 40);
        finds(x, "1 ahead of 4", 1, 1, -4, -4, -4);
        finds("", "0 11010 11101 11111 01000", 5, 1, 1, 1, 1);
        finds("", "0 11010 11100 11111 01000", 6, 1, 1, 0, 1);
    }

    private static void symbol() {
        SwipedStripe x = new SwipedStripe();
        CHECKS.due("symbol(-1) without gaps", x.symbol(-1), -1);
        CHECKS.due("symbol(least) without gaps", x.symbol(Integer.MIN_VALUE), -1);
        CHECKS.due("symbol(0) without gaps", x.symbol(0), -2);
        CHECKS.due("symbol(greatest) without gaps", x.symbol(Integer.MAX_VALUE), -2);
        String[] without = {"0 11010 0", "0 00000"};
        for (String bits : without) {
            for (int last : new int[] {100, 300, 10}) {
                // VERDICT 3 or 4, 2, 1
                Hand.bits(x, bits);
                x.alter(x.count(1) - 1, last);
                CHECKS.due("symbol(-1) of " + bits, x.symbol(-1), -1);
                CHECKS.due("symbol(0) of " + bits, x.symbol(0), -2);
                CHECKS.due("symbol(32) of " + bits, x.symbol(32), -2);
                CHECKS.due("symbol(greatest) of " + bits, x.symbol(Integer.MAX_VALUE), -2);
            }
        }
        Hand.bits(x, "0 11010 11111 00100");
        CHECKS.bad("symbol of no values", x::symbol, -1, 0, 1);
        Hand.bits(x, WELL);
        CHECKS.due("symbol(0)", x.symbol(0), 6);
        CHECKS.bad("symbol of one", x::symbol, -1, 1, 2);
        // VERDICT 5 and 6 have values too
        Hand.bits(x, "0 11010 01100 00001 11111 01000");
        CHECKS.due("symbol(0) without its PARITY", x.symbol(0), 6);
        CHECKS.due("symbol(1)", x.symbol(1), 0);
        CHECKS.bad("symbol of two", x::symbol, -1, 2);
        Hand.bits(x, "0 11010 10101 11111 01000");
        CHECKS.due("symbol(0) of VERDICT 6", x.symbol(0), 5);
        CHECKS.bad("symbol of VERDICT 6", x::symbol, -1, 1);
    }

    private static void mends(String rules, String bits, int which, int value, int bit) {
        SwipedStripe x = drawn(rules, bits);
        CHECKS.due("mended(0) of " + bits, x.mended(0), which);
        CHECKS.due("mended(1) of " + bits, x.mended(1), value);
        CHECKS.due("mended(2) of " + bits, x.mended(2), bit);
    }

    /** Each bit of each SYMBOL turned by itself, its PARITY too: BEGIN and CLOSE are not found then, the others mended. */
    private static void mendedBits() {
        for (int d = 3; d <= 6; d++) {
            String rules = "bits " + d + ";begin 1;close 2;";
            int[] values = {1, 0, (1 << d) - 1, 2, 3 ^ (1 << d) - 1};
            StringBuilder well = new StringBuilder("0");
            for (int v : values) {
                well.append(symbol(v, d));
            }
            finds(rules, well.toString(), 0, 1, 2, 0, 0);
            for (int which = 0; which < values.length; which++) {
                for (int k = 0; k <= d; k++) {
                    StringBuilder bits = new StringBuilder(well);
                    int place = 1 + which * (d + 1) + k;
                    bits.setCharAt(place, bits.charAt(place) == '0' ? '1' : '0');
                    if (which == 0 || which == 3) {
                        SwipedStripe x = drawn(rules, bits.toString());
                        CHECKS.holds("turned in BEGIN or CLOSE it is not well: " + bits, x.found(0) != 0);
                    } else {
                        mends(rules, bits.toString(), which, values[which], k == d ? -4 : k);
                    }
                }
            }
        }
    }

    /** Odd in number. */
    private static String symbol(int v, int d) {
        StringBuilder bits = new StringBuilder();
        for (int k = 0; k < d; k++) {
            bits.append(v >> k & 1);
        }
        return bits.append(1 - Integer.bitCount(v) % 2).toString();
    }

    /** The first and the last of 32 values, and the checks behind none and behind 32. */
    private static void mendedSymbols() {
        String rules = "bits 3;begin 1;close 2;";
        mends(rules, "0 1000" + "1001" + "0001".repeat(31) + "0100 1101", 1, 0, 0);
        mends(rules, "0 1000" + "0001".repeat(31) + "0011" + "0100 1101", 32, 0, 2);
        mends(rules, "0 1000" + "0001".repeat(31) + "0000" + "0100 1101", 32, 0, -4);
        mends(rules, "0 1000" + "0001".repeat(32) + "0100 0101", 34, 3, 0);
        mends(rules, "0 1000" + "0001".repeat(32) + "0100 1100", 34, 3, -4);
        mends(rules, "0 1000 0100 1111", 2, 3, 2);
        mends(rules, "0 1000 0100 1100", 2, 3, -4);
        // two SYMBOLS, two checks, a SYMBOL with its PARITY: it can not be
        mends(rules, "0 1000 0000 0000 0100 1101", -4, -4, -4);
        mends(rules, "0 1000 1001 0000 0100 1101", -4, -4, -4);
        mends(rules, "0 1000 1001 1001 0100 1101", -4, -4, -4);
        mends(rules, "0 1000 0001 0100 0100", -4, -4, -4);
        mends(rules, "0 1000 1101 0100 1101", -4, -4, -4);
        mends(rules, "0 1000 1000 0100 1101", -4, -4, -4);
        mends(rules, "0 1000 1100 0100 1101", -4, -4, -4);
        mends(rules, "0 1000 1111 0100 1101", -4, -4, -4);
        mends(rules + "plain;", "0 1000 0000 0100", -4, -4, -4);
        mends(rules + "plain;", "0 1000 1001 0100", -4, -4, -4);
    }

    private static void mendedRefused() {
        SwipedStripe x = new SwipedStripe();
        for (String bits : new String[] {"", "0 00000", "0 11010 0", WELL, "0 11010 01100 11111 01000"}) {
            Hand.bits(x, bits);
            CHECKS.bad("mended of " + bits, x::mended, -1, 3);
        }
        CHECKS.due("mended(0) of VERDICT 5", x.mended(0), 1);
        // no GAPS; VERDICT 3, 4 and 0; then 2 and 1
        for (String bits : new String[] {"", "0 00000", "0 11010 0", WELL}) {
            mends("", bits, -2, -2, -2);
        }
        for (int last : new int[] {300, 10}) {
            Hand.bits(x, "0 11010 01100 11111 0100");
            x.alter(x.count(1) - 1, last);
            for (int what = 0; what < 3; what++) {
                CHECKS.due("mended of VERDICT 1 or 2", x.mended(what), -2);
            }
        }
        // VERDICT 6: no SYMBOL is without its PARITY
        mends("", "0 11010 10101 11111 01000", -4, -4, -4);
    }
}
