import java.util.Arrays;
import java.util.stream.IntStream;

/** Promises 23 to 27 at their edges: the way, the SMOOTHEST, MARGIN and SWAY of one GAP, of 320, and where they turn. */
public final class SmoothEdgesTest {
    private static final Checks CHECKS = new Checks();
    private static final String WELL = "0 11010 01101 11111 01000 0";

    public static void main(String[] args) {
        way();
        smoothRefused();
        smoothOfFew();
        smoothOfAsMany();
        smoothOfAll();
        marginRefused();
        marginOfOneBit();
        marginInLowestTerms();
        marginByClocks();
        swayRefused();
        swayAtEachTurn();
        swayOfAll();
        CHECKS.finish();
    }

    private static SwipedStripe of(int... gaps) {
        SwipedStripe x = new SwipedStripe();
        Hand.gaps(x, gaps);
        return x;
    }

    private static SwipedStripe drawn(String bits) {
        SwipedStripe x = new SwipedStripe();
        Hand.bits(x, bits);
        return x;
    }

    private static void way() {
        SwipedStripe x = new SwipedStripe();
        CHECKS.due("way without gaps", x.way(), -2);
        CHECKS.due("way of one gap", of(1).way(), -4);
        x = drawn(WELL);
        CHECKS.due("way as they are", x.way(), 0);
        x.turn();
        CHECKS.due("way turned", x.way(), 1);
        CHECKS.due("and once more", x.way(), 1);
        CHECKS.due("gaps stay turned", x.gap(1), 100);
        CHECKS.due("gaps stay turned", x.gap(x.count(1) - 2), 50);
        x.wipe();
        CHECKS.due("way of wiped gaps", x.way(), -2);
        // VERDICT 1 to 6 are all no sense: 3, 4, 5, 6, then 2 and 1
        for (String bits : new String[] {"0 00000 0", "0 11010 01101 0", "0 11010 01100 11111 01000 0",
            "0 11010 10101 11111 01000 0"}) {
            SwipedStripe y = drawn(bits);
            CHECKS.due("way of " + bits, y.way(), -4);
            y.turn();
            CHECKS.due("way of " + bits + " turned", y.way(), -4);
        }
        SwipedStripe y = drawn(WELL);
        y.alter(1, 141);
        CHECKS.due("way failing 2", y.way(), -4);
        // there it fails behind all; back it fails at once
        y = drawn(WELL);
        y.alter(y.count(1) - 1, 300);
        CHECKS.due("way failing behind all", y.way(), 0);
        y.turn();
        CHECKS.due("way failing ahead of all", y.way(), 1);
        // sense both ways is sense as they are
        y = drawn(WELL + new StringBuilder(WELL).reverse());
        CHECKS.due("way of both", y.way(), 0);
        y.turn();
        CHECKS.due("way of both, turned", y.way(), 0);
    }

    private static void smoothRefused() {
        SwipedStripe x = new SwipedStripe();
        for (int n = 0; n < 2; n++) {
            CHECKS.bad("smooth", x::smooth, -1, 3);
            // without GAPS, and of one: no step, one bit, no 1
            for (int what = 0; what < 3; what++) {
                CHECKS.due("smooth(" + what + ")", x.smooth(what), n == 0 ? -2 : what == 1 ? 1 : 0);
            }
            CHECKS.due("smoothBit(0)", x.smoothBit(0), n == 0 ? -1 : 0);
            CHECKS.bad("smoothBit", x::smoothBit, -1, 1);
            Hand.gaps(x, 9999);
        }
    }

    private static void smooths(int sum, String bits, int... gaps) {
        String of = " of " + (gaps.length > 12 ? gaps.length + " gaps" : Arrays.toString(gaps));
        SwipedStripe x = of(gaps);
        CHECKS.due("smooth(0)" + of, x.smooth(0), sum);
        CHECKS.due("smooth(1)" + of, x.smooth(1), bits.length());
        CHECKS.due("smooth(2)" + of, x.smooth(2), bits.replace("0", "").length());
        CHECKS.bad("smoothBit" + of, x::smoothBit, -1, bits.length(), bits.length() + 1);
        for (int i = 0; i < bits.length(); i++) {
            // a stripe is good for 512 calls
            x = i % 100 == 99 ? of(gaps) : x;
            CHECKS.due("smoothBit(" + i + ")" + of, x.smoothBit(i), bits.charAt(i) - '0');
        }
    }

    private static void smoothOfFew() {
        smooths(0, "0", 1);
        smooths(0, "0", 9999);
        // two: 00 and 1 are always as smooth, 00 is less
        smooths(0, "00", 5, 5);
        smooths(9998, "00", 1, 9999);
        smooths(9998, "00", 9999, 1);
        // three: 000, 01 or 10
        smooths(0, "000", 5, 5, 5);
        smooths(0, "01", 10, 5, 5);
        smooths(0, "10", 5, 5, 10);
        smooths(1, "01", 11, 5, 5);
        smooths(1, "10", 5, 5, 11);
        smooths(0, "1101", 3, 3, 3, 3, 6, 3, 3);
    }

    /** Of several the least row of bits, at the first, in the midst, at the last. */
    private static void smoothOfAsMany() {
        // 000 is 3 and 1, 01 is 3 and 1: at the last
        smooths(4, "000", 10, 7, 6);
        // 000 is 1 and 3, 10 is 1 and 3: at the first
        smooths(4, "000", 6, 7, 10);
        // 0000 is 6, 2, 7, 010 is 6, 2, 7, 11 is 16: in the midst
        smooths(15, "0000", 20, 14, 12, 19);
        // 0000 is 20, 20; 010 is 0, 20, 20; 11 is 20, 0, 20: all 40
        smooths(40, "0000", 60, 40, 40, 60);
        // 010 is 20, 0, 20; 0000 and 11 are 60, 100 and 001 are 100
        smooths(40, "010", 40, 10, 10, 40);
        // 0000 and 11: a 0 at the first bit that differs is less, though the row be longer
        smooths(0, "0000", 7, 7, 7, 7);
        smooths(0, "00000", 7, 7, 7, 7, 7);
    }

    private static void smoothOfAll() {
        int[] alike = new int[320];
        Arrays.fill(alike, 9999);
        smooths(0, "0".repeat(320), alike);
        Arrays.fill(alike, 1);
        smooths(0, "0".repeat(320), alike);
        // 1, 9999 and so on: a 0 for each is 9998 for each but the first, a 1 for two of them half as much
        int[] unlike = IntStream.range(0, 320).map(i -> i % 2 == 0 ? 1 : 9999).toArray();
        smooths(160 * 9998, "1".repeat(160), unlike);
        // a 0 and 159 times a 1, and one GAP more
        int[] ones = IntStream.range(0, 320).map(i -> i == 0 || i == 319 ? 100 : 50).toArray();
        smooths(0, "0" + "1".repeat(159) + "0", ones);
        ones[319] = 140;
        smooths(40, "0" + "1".repeat(159) + "0", ones);
        // the last GAP is far from the others
        Arrays.fill(alike, 100);
        alike[319] = 9999;
        smooths(9899, "0".repeat(320), alike);
        int[] last = IntStream.range(0, 320).map(i -> i < 318 ? 100 : 50).toArray();
        smooths(0, "0".repeat(318) + "1", last);
    }

    private static void margins(SwipedStripe x, int clock, int above, int below) {
        CHECKS.due("margin(" + clock + ", 0)", x.margin(clock, 0), above);
        CHECKS.due("margin(" + clock + ", 1)", x.margin(clock, 1), below);
    }

    private static void marginRefused() {
        SwipedStripe x = new SwipedStripe();
        for (int n = 0; n < 3; n++) {
            CHECKS.bad("margin by a clock", c -> x.margin(c, 0), -1, 3);
            CHECKS.bad("margin for", w -> x.margin(0, w), -1, 2);
            CHECKS.bad("margin by the last clock for", w -> x.margin(2, w), -1, 2);
            for (int clock = 0; clock < 3; clock++) {
                // no GAPS, one bit, two
                margins(x, clock, new int[] {-2, -4, 1}[n], new int[] {-2, -4, 4}[n]);
            }
            Hand.gaps(x, n == 0 ? new int[] {8} : new int[] {8, 8});
        }
    }

    /** One bit alone: one GAP, or two of which READ FAILS at the second. */
    private static void marginOfOneBit() {
        for (int clock = 0; clock < 3; clock++) {
            margins(of(1), clock, -4, -4);
            margins(of(9999), clock, -4, -4);
            margins(of(100, 75), clock, -4, -4);
            margins(of(100, 141), clock, -4, -4);
            margins(of(100, 50, 91), clock, -4, -4);
            margins(of(100, 140), clock, 13, 20);
            margins(of(100, 76), clock, 1, 100);
            // what FAILS is none of the bits READ
            margins(of(100, 100, 75), clock, 1, 4);
            margins(of(100, 100, 75, 100), clock, 1, 4);
        }
    }

    private static void marginInLowestTerms() {
        // 0 is 0 by 1
        margins(of(100, 75, 25), 0, 0, 1);
        margins(of(4, 3, 1), 0, 0, 1);
        margins(of(9996, 7497, 2499), 0, 0, 1);
        margins(of(100, 100, 75, 25, 100), 0, 0, 1);
        margins(of(100, 75, 25, 76), 0, 0, 1);
        // 1 by 4 T; both ways of 3 by 4
        margins(of(9999, 7500), 0, 1, 13332);
        margins(of(9999, 7499, 2500), 0, 1, 39996);
        margins(of(101, 76), 0, 1, 404);
        margins(of(101, 75, 26), 0, 3, 404);
        margins(of(3, 3), 0, 1, 4);
        margins(of(2, 3), 0, -4, -4);
        margins(of(1, 1), 0, 1, 4);
        // 4 g less 3 T is 4 * 16 less 3 * 12, by 48: 28 by 48
        margins(of(12, 16), 0, 7, 12);
        // 3 T less 4 g is 300 less 4, by 400
        margins(of(100, 1, 99), 0, 37, 50);
        // the least of several, first, midst and last
        margins(of(100, 80, 100, 100), 0, 1, 20);
        margins(of(100, 100, 80, 100), 0, 1, 20);
        margins(of(100, 100, 100, 80), 0, 1, 20);
        margins(of(100, 70, 30, 80), 0, 1, 20);
        margins(of(100, 80, 71, 29), 0, 1, 25);
    }

    private static void marginByClocks() {
        // T is 100, then 100, 120 or 105: 4 times 100 less 3 T, by 4 T; asked of one stripe, there and back
        SwipedStripe x = of(100, 120, 100);
        margins(x, 0, 1, 4);
        margins(x, 1, 1, 12);
        margins(x, 2, 17, 84);
        margins(x, 1, 1, 12);
        margins(x, 0, 1, 4);
        Hand.gaps(x, 20, 16);
        margins(x, 0, 1, 20);
        CHECKS.due("sway of 20 and 16", x.sway(), 0);
        Hand.gaps(x, 20, 20, 20, 20);
        margins(x, 0, 1, 4);
        CHECKS.due("sway of 20s", x.sway(), 2);
        // unlike denominators: 20 by 400 and 24 by 480 are as much, 25 by 480 is more, 23 by 480 is less
        margins(of(100, 80, 64), 1, 1, 20);
        margins(of(100, 80, 63), 1, 3, 80);
        margins(of(100, 80, 65), 1, 1, 20);
    }

    private static void sways(int due, int... gaps) {
        CHECKS.due("sway of " + Arrays.toString(gaps), of(gaps).sway(), due);
    }

    private static void swayRefused() {
        CHECKS.due("sway without gaps", new SwipedStripe().sway(), -2);
        sways(-2, 100, 75);
        sways(0, 100, 76);
        sways(-2, 9999, 1);
        sways(-2, 100, 50, 50, 50);
        sways(14, 100, 50, 50, 50, 50);
        // READ by CLOCK 0, whatever the text tells: by the others the last one is a 0
        sways(-2, 100, 80, 61);
        SwipedStripe x = new SwipedStripe();
        Hand.tell(x, "clock 2;limit 5;");
        Hand.gaps(x, 100, 300, 100, 1, 1);
        CHECKS.due("LIMIT is not looked at", x.sway(), 14);
        CHECKS.due("READ does look at it", x.read(0, 1), 2);
        Hand.gaps(x, 100, 300, 100, 1);
        CHECKS.due("FAILS 1 behind what LIMIT would refuse", x.sway(), -2);
    }

    /** A 0 needs 4 g less 3 T to be more than 7 j, a 1 needs 3 T less 4 g to be 7 j at least. */
    private static void swayAtEachTurn() {
        sways(0, 3, 4);
        sways(1, 4, 5);
        sways(0, 10, 6, 4);
        sways(1, 5, 2, 3);
        sways(98, 1, 174);
        sways(99, 2, 175);
        sways(98, 232, 1, 231);
        sways(99, 235, 3, 232);
        sways(99, 1, 9999);
        sways(99, 9999, 1, 9999);
        sways(99, 1);
        sways(99, 9999);
        for (int t = 1; t <= 1200; t += 7) {
            for (int g : new int[] {1, t / 2, 3 * t / 4, 3 * t / 4 + 1, t, 2 * t}) {
                if (g > 0) {
                    int room = 4 * g - 3 * t;
                    int due = room > 0 ? (room - 1) / 7 : -room / 7;
                    sways(Math.min(due, 99), t, g, room > 0 ? 9999 : 1);
                }
            }
        }
        // the least of all bits, but the first, wherever it is
        sways(3, 100, 82, 100, 100);
        sways(3, 100, 100, 82, 100);
        sways(3, 100, 100, 100, 82);
        sways(0, 100, 82, 75, 25);
    }

    private static void swayOfAll() {
        SwipedStripe x = new SwipedStripe();
        Hand.many(x, 320);
        // T 101, the least is 101 again: 7 j less than 101
        CHECKS.due("sway of 320", x.sway(), 14);
        x.alter(319, 76);
        CHECKS.due("the last decides", x.sway(), 0);
        x.alter(319, 75);
        CHECKS.due("the last fails", x.sway(), -2);
    }
}
