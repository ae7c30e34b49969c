import java.util.Random;

/** Promises 18 to 27: reading. Bits are drawn with 4 bits to a value and 1s odd in number, if nothing else is told. */
public final class ReadingTest {
    private static final Checks CHECKS = new Checks();

    public static void main(String[] args) {
        refusedWithoutGaps();
        readParts();
        readFails();
        readClocks();
        heard();
        foundWell();
        foundNot();
        foundWrong();
        foundLong();
        symbols();
        mended();
        mendedNot();
        way();
        smooth();
        smoothOfAll();
        smoothByTrying();
        margin();
        sway();
        CHECKS.finish();
    }

    private static void refusedWithoutGaps() {
        SwipedStripe x = new SwipedStripe();
        for (int what = 0; what < 3; what++) {
            CHECKS.due("read", x.read(0, what), -2);
            CHECKS.due("mended", x.mended(what), -2);
            CHECKS.due("smooth", x.smooth(what), -2);
        }
        for (int what = 0; what < 5; what++) {
            CHECKS.due("found", x.found(what), -2);
        }
        CHECKS.due("margin", x.margin(2, 1), -2);
        CHECKS.due("symbol", x.symbol(0), -2);
        CHECKS.due("symbol(-1)", x.symbol(-1), -1);
        CHECKS.due("heard", x.heard(0), -1);
        CHECKS.due("smoothBit", x.smoothBit(0), -1);
        CHECKS.due("way", x.way(), -2);
        CHECKS.due("sway", x.sway(), -2);
        for (int n = 0; n < 2; n++) {
            CHECKS.due("read(3, 0)", x.read(3, 0), -1);
            CHECKS.due("read(-1, 0)", x.read(-1, 0), -1);
            CHECKS.due("read(0, 3)", x.read(0, 3), -1);
            CHECKS.due("read(0, -1)", x.read(0, -1), -1);
            CHECKS.due("found(5)", x.found(5), -1);
            CHECKS.due("found(-1)", x.found(-1), -1);
            CHECKS.due("mended(3)", x.mended(3), -1);
            CHECKS.due("mended(-1)", x.mended(-1), -1);
            CHECKS.due("smooth(3)", x.smooth(3), -1);
            CHECKS.due("smooth(-1)", x.smooth(-1), -1);
            CHECKS.due("margin(3, 0)", x.margin(3, 0), -1);
            CHECKS.due("margin(-1, 0)", x.margin(-1, 0), -1);
            CHECKS.due("margin(0, 2)", x.margin(0, 2), -1);
            CHECKS.due("margin(0, -1)", x.margin(0, -1), -1);
            // BAD ahead of STATE, and without it
            Hand.gaps(x, 100, 100);
        }
    }

    private static void reads(String rules, int clock, int bits, int fails, int at, int... gaps) {
        SwipedStripe x = new SwipedStripe();
        Hand.tell(x, rules);
        Hand.gaps(x, gaps);
        String call = "read of " + java.util.Arrays.toString(gaps) + " by " + clock + " " + rules;
        CHECKS.due(call + ": bits", x.read(clock, 0), bits);
        CHECKS.due(call + ": fails", x.read(clock, 1), fails);
        CHECKS.due(call + ": at", x.read(clock, 2), at);
    }

    private static void readParts() {
        reads("", 0, 1, 0, -4, 7);
        reads("", 0, 4, 0, -4, 100, 100, 50, 50, 100);
        // 75 is three quarters of 100, and so the half of a 1
        reads("", 0, 2, 0, -4, 100, 76);
        reads("", 0, 2, 0, -4, 100, 75, 25);
        reads("", 0, 3, 0, -4, 100, 76, 100);
        reads("", 0, 2, 0, -4, 1, 1);
        reads("", 0, 2, 0, -4, 9999, 5000, 4999);
    }

    private static void readFails() {
        reads("", 0, 1, 1, 1, 100, 75);
        reads("", 0, 3, 1, 4, 100, 50, 50, 100, 50);
        reads("", 0, 2, 0, -4, 100, 140);
        reads("", 0, 1, 2, 1, 100, 141);
        reads("", 0, 2, 0, -4, 100, 30, 30);
        reads("", 0, 1, 2, 1, 100, 30, 29);
        reads("", 0, 2, 0, -4, 100, 40, 100);
        reads("", 0, 1, 2, 1, 100, 40, 101);
        reads("limit 5;", 0, 2, 0, -4, 100, 105);
        reads("limit 5;", 0, 1, 2, 1, 100, 106);
        reads("limit 5;", 0, 2, 0, -4, 100, 95);
        reads("limit 5;", 0, 1, 2, 1, 100, 94);
        reads("limit 60;", 0, 2, 0, -4, 100, 160);
        reads("limit 60;", 0, 1, 2, 1, 100, 161);
        // a half that is too long already and has no next one fails for that
        reads("", 0, 1, 1, 1, 100, 1);
        reads("", 0, 1, 2, 1, 1, 2, 1, 1);
    }

    private static void readClocks() {
        reads("", 0, 3, 2, 3, 100, 120, 140, 141);
        reads("", 1, 4, 0, -4, 100, 140, 196, 274);
        reads("", 1, 3, 2, 3, 100, 140, 196, 275);
        reads("", 0, 2, 2, 2, 100, 140, 196, 274);
        // slow: 100, 110 behind 140, 121 behind 154
        reads("", 2, 4, 0, -4, 100, 140, 154, 169);
        reads("", 2, 2, 2, 2, 100, 140, 155, 169);
        reads("", 2, 3, 2, 3, 100, 140, 154, 170);
        // slow, divided down: 10 stays 10 behind 13
        reads("", 2, 3, 0, -4, 10, 13, 14);
        reads("", 2, 2, 2, 2, 10, 13, 15);
        // a 1 is as long as both
        reads("", 1, 3, 0, -4, 100, 60, 60, 160);
        reads("", 0, 2, 2, 3, 100, 60, 60, 160);
        // the one that follows takes 60 for a 0 where 80 was the last
        reads("", 1, 3, 0, -4, 100, 80, 61);
        reads("", 0, 2, 1, 2, 100, 80, 61);
    }

    private static void heard() {
        SwipedStripe x = new SwipedStripe();
        String bits = "0 11010 0110";
        Hand.bits(x, bits);
        String due = bits.replace(" ", "");
        for (int i = 0; i < due.length(); i++) {
            CHECKS.due("heard(" + i + ")", x.heard(i), due.charAt(i) - '0');
        }
        CHECKS.due("heard beyond", x.heard(10), -1);
        CHECKS.due("heard(-1)", x.heard(-1), -1);
        Hand.gaps(x, 100, 80, 61);
        CHECKS.due("heard by the last bit", x.heard(2), 0);
        Hand.tell(x, "clock 0;");
        Hand.gaps(x, 100, 80, 61);
        CHECKS.due("heard by the first bit", x.heard(1), 0);
        CHECKS.due("heard by the first bit: it fails", x.heard(2), -1);
        Hand.gaps(x, 100, 80, 61, 20);
        CHECKS.due("heard by the first bit", x.heard(2), 1);
    }

    private static void finds(SwipedStripe x, String when, int... due) {
        for (int what = 0; what < 5; what++) {
            CHECKS.due("found(" + what + ") " + when, x.found(what), due[what]);
        }
    }

    private static void finds(String rules, String bits, int... due) {
        SwipedStripe x = new SwipedStripe();
        Hand.tell(x, rules);
        Hand.bits(x, bits);
        finds(x, "of " + bits + " " + rules, due);
    }

    private static void foundWell() {
        finds("", "0 11010 11111 00100", 0, 1, 0, 0, 0);
        finds("", "0 11010 01101 11111 01000", 0, 1, 1, 0, 0);
        finds("", "00000000 11010 01101 00001 11111 01000 000", 0, 8, 2, 0, 0);
        finds("plain;", "0 11010 01101 11111", 0, 1, 1, 0, 0);
        finds("plain;even;", "0 11011 01100 11110", 0, 1, 1, 0, 0);
        // the first bit is always a 0, and may be one of BEGIN's
        finds("plain;begin 0;", "00001 11111", 0, 0, 0, 0, 0);
        // BEGIN once more is a value like any other one
        finds("", "0 11010 11010 11111 11111", 0, 1, 1, 0, 0);
        // the first BEGIN, wherever it stands
        finds("plain;", "0 1 11010 11111", 0, 2, 0, 0, 0);
    }

    private static void foundNot() {
        finds("", "0", 3, -4, -4, -4, -4);
        finds("", "0 1101", 3, -4, -4, -4, -4);
        finds("", "0 11011 11111 00100", 3, -4, -4, -4, -4);
        finds("", "0 00000 00000", 3, -4, -4, -4, -4);
        finds("", "0 11010", 4, 1, -4, -4, -4);
        finds("", "0 11010 01101 1111", 4, 1, -4, -4, -4);
        finds("", "0 11010 01101 11111", 4, 1, -4, -4, -4);
        finds("", "0 11010 01101 11111 0100", 4, 1, -4, -4, -4);
        // CLOSE is sought symbol by symbol
        finds("plain;", "0 11010 0 11111 00000", 4, 1, -4, -4, -4);
        SwipedStripe x = new SwipedStripe();
        Hand.gaps(x, 100, 100, 50);
        finds(x, "failing 1 without BEGIN", 1, -4, -4, -4, -4);
        Hand.gaps(x, 100, 100, 200);
        finds(x, "failing 2 without BEGIN", 2, -4, -4, -4, -4);
        Hand.bits(x, "0 11010 01101");
        x.alter(x.count(1) - 1, 200);
        finds(x, "failing 2 behind BEGIN", 2, 1, -4, -4, -4);
        Hand.bits(x, "0 11010 01101 11111 01000");
        x.alter(x.count(1) - 1, 200);
        finds(x, "failing 2 in the checks", 2, 1, -4, -4, -4);
        Hand.bits(x, "0 11010 01101 11111 01000 0");
        x.alter(x.count(1) - 1, 200);
        finds(x, "failing 2 behind the checks", 0, 1, 1, 0, 0);
        x.alter(x.count(1) - 1, 40);
        finds(x, "failing 1 behind the checks", 0, 1, 1, 0, 0);
        CHECKS.due("it does fail", x.read(1, 1), 1);
        Hand.bits(x, "0 11010 01101 11111 01001");
        x.alter(x.count(1) - 2, 200);
        x.miss(x.count(1) - 2);
        finds(x, "failing in the last bit of the checks", 2, 1, -4, -4, -4);
        Hand.bits(x, "0 11010 01101 11111 01001");
        x.miss(x.count(1) - 2);
        x.alter(x.count(1) - 1, 40);
        finds(x, "failing 1 in the last bit of the checks", 1, 1, -4, -4, -4);
    }

    private static void foundWrong() {
        finds("", "0 11010 01100 11111 01000", 5, 1, 1, 1, 0);
        finds("", "0 11010 11101 11111 01000", 5, 1, 1, 1, 1);
        finds("", "0 11010 01111 11111 01000", 5, 1, 1, 1, 8);
        finds("", "0 11010 01101 11111 01100", 5, 1, 1, 1, 4);
        finds("", "0 11010 01101 11111 01001", 5, 1, 1, 1, 0);
        finds("", "0 11010 10101 11111 01000", 6, 1, 1, 0, 3);
        finds("", "0 11010 01101 11111 00000", 5, 1, 1, 1, 2);
        finds("", "0 11010 01101 11111 10110", 6, 1, 1, 0, 15);
        finds("", "0 11010 01100 10000 11111 01001", 5, 1, 2, 2, 1);
        finds("plain;", "0 11010 01100 11111", 5, 1, 1, 1, 0);
        // CLOSE without its parity closes nothing
        finds("plain;", "0 11010 11110 11111", 5, 1, 1, 1, 0);
    }

    private static void foundLong() {
        String rules = "bits 3;begin 1;close 2;";
        String values = "0001".repeat(32);
        finds(rules, "0 1000" + values + "0100 1101", 0, 1, 32, 0, 0);
        finds(rules, "0 1000" + values + "0001 0100 1101", 4, 1, -4, -4, -4);
        finds(rules + "plain;", "0 1000" + values + "0100", 0, 1, 32, 0, 0);
        finds(rules + "plain;", "0 1000" + values + "0001 0100", 4, 1, -4, -4, -4);
        SwipedStripe x = new SwipedStripe();
        Hand.tell(x, rules);
        Hand.bits(x, "0 1000" + values + "0100 1101");
        CHECKS.due("the last of 32", x.symbol(31), 0);
        CHECKS.due("none beyond 32", x.symbol(32), -1);
        CHECKS.due("32 are kept", x.keep(), 0);
        CHECKS.due("32 places", x.joined(0), 32);
        CHECKS.due("the last of them", x.join(31), 0);
    }

    private static void symbols() {
        SwipedStripe x = new SwipedStripe();
        Hand.bits(x, "0 11010 01101 00000 11111 01000");
        CHECKS.due("symbol(0)", x.symbol(0), 6);
        CHECKS.due("symbol(1), without its parity", x.symbol(1), 0);
        CHECKS.due("symbol(2)", x.symbol(2), -1);
        CHECKS.due("symbol(-1)", x.symbol(-1), -1);
        Hand.bits(x, "0 11010 11111 00100");
        CHECKS.due("symbol(0) of none", x.symbol(0), -1);
        Hand.bits(x, "0 11010 01101");
        CHECKS.due("symbol(0) without CLOSE", x.symbol(0), -2);
        CHECKS.due("symbol(-1) without CLOSE", x.symbol(-1), -1);
    }

    private static void mends(String rules, String bits, int which, int value, int bit) {
        SwipedStripe x = new SwipedStripe();
        Hand.tell(x, rules);
        Hand.bits(x, bits);
        CHECKS.due("mended(0) of " + bits, x.mended(0), which);
        CHECKS.due("mended(1) of " + bits, x.mended(1), value);
        CHECKS.due("mended(2) of " + bits, x.mended(2), bit);
    }

    private static void mended() {
        mends("", "0 11010 01100 11111 01000", 1, 6, -4);
        mends("", "0 11010 11101 11111 01000", 1, 6, 0);
        mends("", "0 11010 01111 11111 01000", 1, 6, 3);
        mends("", "0 11010 00101 11111 01000", 1, 6, 1);
        mends("", "0 11010 00001 01111 11111 01000", 2, 6, 3);
        mends("", "0 11010 01101 11111 01100", 3, 2, 2);
        mends("", "0 11010 01101 11111 00000", 3, 2, 1);
        mends("", "0 11010 01101 11111 01001", 3, 2, -4);
        mends("even;", "0 11011 01101 11110 01001", 1, 6, -4);
        mends("bits 3;begin 1;close 2;", "0 1000 1111 0100 0010", 1, 7, -4);
        mends("bits 3;begin 1;close 2;", "0 1000 0000 0100 1101", 1, 0, -4);
        mends("bits 3;begin 1;close 2;", "0 1000 0011 0100 1101", 1, 0, 2);
    }

    private static void mendedNot() {
        // two symbols; two checks; parities right; plain; well; nothing found
        mends("", "0 11010 01100 10000 11111 01001", -4, -4, -4);
        mends("", "0 11010 01100 00000 11111 01000", -4, -4, -4);
        mends("", "0 11010 01100 11111 10000", -4, -4, -4);
        mends("", "0 11010 10101 11111 01000", -4, -4, -4);
        mends("plain;", "0 11010 01100 11111", -4, -4, -4);
        mends("", "0 11010 01101 11111 01000", -2, -2, -2);
        mends("", "0 11010 01101", -2, -2, -2);
        mends("", "0 00000", -2, -2, -2);
    }

    private static void way() {
        SwipedStripe x = new SwipedStripe();
        String well = "0 11010 01101 11111 01000 0";
        Hand.bits(x, well);
        CHECKS.due("way", x.way(), 0);
        x.turn();
        CHECKS.due("way of a turned one", x.way(), 1);
        CHECKS.due("gaps stay turned", x.found(0) == 0 ? 1 : 0, 0);
        x.turn();
        CHECKS.due("gaps stay", x.found(0), 0);
        Hand.bits(x, "0 11010 01100 11111 01000 0");
        CHECKS.due("way of one with a fault", x.way(), -4);
        x.turn();
        CHECKS.due("way of one with a fault, turned", x.way(), -4);
        Hand.bits(x, "0");
        CHECKS.due("way of one bit", x.way(), -4);
        // there is sense in it both ways
        Hand.bits(x, well + "0 " + new StringBuilder(well).reverse());
        CHECKS.due("way of one that reads alike both ways", x.way(), 0);
    }

    private static SwipedStripe of(int... gaps) {
        SwipedStripe x = new SwipedStripe();
        Hand.gaps(x, gaps);
        return x;
    }

    private static void smooths(int sum, String bits, int... gaps) {
        SwipedStripe x = of(gaps);
        String of = " of " + (gaps.length > 12 ? gaps.length + " gaps" : java.util.Arrays.toString(gaps));
        CHECKS.due("smooth(0)" + of, x.smooth(0), sum);
        CHECKS.due("smooth(1)" + of, x.smooth(1), bits.length());
        CHECKS.due("smooth(2)" + of, x.smooth(2), bits.replace("0", "").length());
        for (int i = 0; i < bits.length(); i++) {
            // a stripe is good for 512 calls
            x = i % 100 == 99 ? of(gaps) : x;
            CHECKS.due("smoothBit(" + i + ")" + of, x.smoothBit(i), bits.charAt(i) - '0');
        }
        CHECKS.due("smoothBit beyond" + of, x.smoothBit(bits.length()), -1);
        CHECKS.due("smoothBit(-1)" + of, x.smoothBit(-1), -1);
    }

    private static void smooth() {
        smooths(0, "0", 7);
        smooths(0, "00", 7, 7);
        // 00 and 1 are as smooth: 00 is less
        smooths(10, "00", 10, 20);
        smooths(0, "010", 100, 50, 50, 100);
        smooths(0, "10", 50, 50, 100);
        smooths(40, "000", 10, 30, 10);
        // 010: 1, 3 and 2; 0000 would be 51, 3 and 51
        smooths(6, "010", 100, 49, 52, 103);
        smooths(40, "010", 40, 10, 10, 40);
        // 0000, 010 and 11 are all 40
        smooths(40, "0000", 60, 40, 40, 60);
    }

    /** As many gaps as there may be, the last ones deciding: 320 of 40, or all but 4 of them and 20, 20, 20, 20. */
    private static void smoothOfAll() {
        int[] gaps = new int[320];
        java.util.Arrays.fill(gaps, 40);
        smooths(0, "0".repeat(320), gaps);
        java.util.Arrays.fill(gaps, 316, 320, 20);
        smooths(0, "0".repeat(316) + "11", gaps);
        gaps[319] = 9999;
        // 0000 is 20 + 9979, 010 is 20 + 20 + 9959, 100 is 20 + 9979: the least row of these
        smooths(9999, "0".repeat(320), gaps);
        gaps[319] = 45;
        // 100 is 20 + 25, 010 is 20 + 20 + 5, 0000 is 20 + 25: once more the least
        smooths(45, "0".repeat(320), gaps);
        gaps[319] = 40;
        gaps[318] = 21;
        // 100 is 19 + 19, 0000 is 20 + 1 + 19, 010 is 20 + 21 + 1 + 1
        smooths(38, "0".repeat(316) + "100", gaps);
        gaps[316] = 40;
        // 0010 is 1 + 1 + 1
        smooths(3, "0".repeat(317) + "10", gaps);
    }

    private static void smoothByTrying() {
        Random chance = new Random(7);
        for (int n = 0; n < 400; n++) {
            int[] gaps = new int[1 + chance.nextInt(11)];
            int most = chance.nextBoolean() ? 4 : 40;
            for (int i = 0; i < gaps.length; i++) {
                gaps[i] = 1 + chance.nextInt(most);
            }
            Tried best = new Tried();
            best.tryFrom(gaps, 0, -1, 0, "");
            smooths(best.sum, best.bits, gaps);
        }
    }

    /** All ways, the least rows first: only a smoother one takes the place of one that was found. */
    private static final class Tried {
        private int sum = Integer.MAX_VALUE;
        private String bits = "";

        private void tryFrom(int[] gaps, int i, int before, int soFar, String row) {
            if (i == gaps.length) {
                if (soFar < sum) {
                    sum = soFar;
                    bits = row;
                }
                return;
            }
            int step = before < 0 ? 0 : Math.abs(gaps[i] - before);
            tryFrom(gaps, i + 1, gaps[i], soFar + step, row + "0");
            if (i + 1 < gaps.length) {
                int both = gaps[i] + gaps[i + 1];
                step = before < 0 ? 0 : Math.abs(both - before);
                tryFrom(gaps, i + 2, both, soFar + step + Math.abs(gaps[i] - gaps[i + 1]), row + "1");
            }
        }
    }

    private static void margins(int clock, int above, int below, int... gaps) {
        SwipedStripe x = new SwipedStripe();
        Hand.gaps(x, gaps);
        String of = "margin of " + java.util.Arrays.toString(gaps) + " by " + clock;
        CHECKS.due(of + ", numerator", x.margin(clock, 0), above);
        CHECKS.due(of + ", denominator", x.margin(clock, 1), below);
    }

    private static void margin() {
        margins(0, 1, 4, 100, 100, 50, 50);
        margins(0, 1, 100, 100, 76);
        margins(0, 3, 28, 7, 6);
        margins(0, 1, 4, 9999, 9999);
        margins(0, 1, 39996, 9999, 7499, 2500);
        margins(0, 0, 1, 100, 75, 25);
        margins(0, 0, 1, 100, 100, 75, 25);
        margins(0, 1, 4, 100, 120, 100);
        margins(1, 1, 12, 100, 120, 100);
        margins(2, 17, 84, 100, 120, 100);
        // a 1 by its first gap alone
        margins(0, 7, 20, 100, 40, 60);
        margins(0, 3, 20, 100, 60, 40);
        margins(0, -4, -4, 100);
        margins(0, -4, -4, 100, 141);
        margins(0, -4, -4, 100, 50);
        // the bit that fails is none that was read
        margins(0, 1, 4, 100, 100, 74);
        margins(0, 1, 4, 100, 100, 200);
    }

    private static void sways(int due, int... gaps) {
        SwipedStripe x = new SwipedStripe();
        Hand.gaps(x, gaps);
        CHECKS.due("sway of " + java.util.Arrays.toString(gaps), x.sway(), due);
    }

    private static void sway() {
        sways(99, 100);
        sways(14, 100, 100);
        sways(14, 100, 50, 50);
        // 4 g less 3 T is 28: a 0 needs more than 7 j, a 1 as much
        sways(3, 100, 82);
        sways(4, 100, 68, 32);
        sways(0, 100, 75, 25);
        sways(0, 100, 76);
        sways(3, 100, 68, 32, 82);
        sways(3, 100, 82, 68, 32);
        sways(99, 5000, 5000);
        sways(97, 1000, 921, 1000);
        sways(98, 1000, 922, 1000);
        sways(98, 1000, 577, 423);
        sways(99, 1000, 576, 424);
        // LIMIT is not looked at
        sways(99, 100, 300);
        sways(28, 100, 25, 1);
        sways(-2, 100, 75);
        sways(-2, 100, 100, 50, 50, 50);
        // the clock stands, whatever the text says
        sways(-2, 100, 80, 61);
        SwipedStripe x = new SwipedStripe();
        Hand.gaps(x, 100, 300);
        CHECKS.due("read does look at LIMIT", x.read(0, 1), 2);
    }
}
