/** Promises 7 to 17: the row, the stripe, gaps. */
public final class GapsTest {
    private static final Checks CHECKS = new Checks();

    public static void main(String[] args) {
        row();
        stripeAtFirst();
        stripeTold();
        writeEvenly();
        writeFasterAndSlower();
        writeSwaying();
        writeRefused();
        gapAndAlter();
        miss();
        split();
        turn();
        CHECKS.finish();
    }

    private static void row() {
        SwipedStripe x = new SwipedStripe();
        CHECKS.due("clear of none", x.clear(), 0);
        CHECKS.due("add(-1)", x.add(-1), -1);
        CHECKS.due("add(16) of 4 bits", x.add(16), -1);
        CHECKS.due("add BEGIN", x.add(11), -1);
        CHECKS.due("add CLOSE", x.add(15), -1);
        for (int n = 1; n <= 16; n++) {
            CHECKS.due("add", x.add(n % 11), n);
        }
        CHECKS.due("a 17th", x.add(0), -3);
        CHECKS.due("BAD ahead of FULL", x.add(11), -1);
        CHECKS.due("value(0)", x.value(0), 1);
        CHECKS.due("value(15)", x.value(15), 5);
        CHECKS.due("value(16)", x.value(16), -1);
        CHECKS.due("value(-1)", x.value(-1), -1);
        CHECKS.due("count(0)", x.count(0), 16);
        CHECKS.due("clear", x.clear(), 16);
        CHECKS.due("value behind clear", x.value(0), -1);
        Hand.tell(x, "bits 6;begin 1;close 2;");
        CHECKS.due("add(63) of 6 bits", x.add(63), 1);
        CHECKS.due("add(64) of 6 bits", x.add(64), -1);
        CHECKS.due("add what was BEGIN", x.add(11), 2);
    }

    private static void stripeIs(SwipedStripe x, String bits) {
        String due = bits.replace(" ", "");
        CHECKS.due("stripe(0)", x.stripe(0), due.length());
        CHECKS.due("stripe(1)", x.stripe(1), due.replace("0", "").length());
        for (int i = 0; i < due.length(); i++) {
            CHECKS.due("bit(" + i + ") of " + bits, x.bit(i), due.charAt(i) - '0');
        }
        CHECKS.due("bit beyond", x.bit(due.length()), -1);
        CHECKS.due("bit(-1)", x.bit(-1), -1);
    }

    private static void stripeAtFirst() {
        SwipedStripe x = new SwipedStripe();
        // 11, 15, and checks 4, lowest bits first, the 1s odd in number
        stripeIs(x, "00000 11010 11111 00100 00000");
        CHECKS.due("checks", x.stripe(2), 4);
        x.add(6);
        x.add(0);
        // 11 ^ 6 ^ 0 ^ 15 is 2
        stripeIs(x, "00000 11010 01101 00001 11111 01000 00000");
        CHECKS.due("checks", x.stripe(2), 2);
        CHECKS.due("stripe(3)", x.stripe(3), -1);
        CHECKS.due("stripe(-1)", x.stripe(-1), -1);
    }

    private static void stripeTold() {
        SwipedStripe x = new SwipedStripe();
        Hand.tell(x, "even;bits 3;begin 1;close 2;plain;lead 2;tail 1;");
        x.add(7);
        stripeIs(x, "00 1001 1111 0101 0");
        CHECKS.due("checks of a plain one", x.stripe(2), -4);
        Hand.tell(x, "bits 5;begin 16;close 0;lead 1;tail 2;");
        stripeIs(x, "0 000010 000001 000010 00");
        CHECKS.due("checks", x.stripe(2), 16);
        CHECKS.due("even alone", Hand.tell(x, "even;"), 1);
        stripeIs(x, "00000 11011 11110 00101 00000");
        CHECKS.due("checks", x.stripe(2), 4);
    }

    private static void gapsAre(SwipedStripe x, String when, int... due) {
        CHECKS.due("how many " + when, x.count(1), due.length);
        int sum = 0;
        for (int i = 0; i < due.length; i++) {
            CHECKS.due("gap(" + i + ") " + when, x.gap(i), due[i]);
            sum += due[i];
        }
        CHECKS.due("all of them " + when, x.count(2), sum);
        CHECKS.due("gap beyond " + when, x.gap(due.length), -1);
    }

    /** A stripe of 0 11 0 10 0 and so on, short enough to be written out: 0 1001 0101 0. */
    private static SwipedStripe small() {
        SwipedStripe x = new SwipedStripe();
        Hand.tell(x, "even;bits 3;begin 1;close 2;plain;lead 1;tail 1;");
        return x;
    }

    private static void writeEvenly() {
        SwipedStripe x = small();
        CHECKS.due("write", x.write(4, 0, 0, 0), 14);
        gapsAre(x, "of 4", 4, 2, 2, 4, 4, 2, 2, 4, 2, 2, 4, 2, 2, 4);
        CHECKS.due("write in place of those", x.write(7, 0, 0, 0), 14);
        gapsAre(x, "of 7", 7, 3, 4, 7, 7, 3, 4, 7, 3, 4, 7, 3, 4, 7);
        CHECKS.due("write", x.write(999, 0, 0, 0), 14);
        gapsAre(x, "of 999", 999, 499, 500, 999, 999, 499, 500, 999, 499, 500, 999, 499, 500, 999);
        x.add(7);
        CHECKS.due("write 8 more", x.write(999, 0, 0, 0), 22);
    }

    private static void writeFasterAndSlower() {
        SwipedStripe x = small();
        x.write(10, 1, 0, 0);
        gapsAre(x, "longer and longer", 10, 5, 6, 12, 13, 7, 7, 15, 8, 8, 17, 9, 9, 19);
        x.write(10, -1, 0, 0);
        gapsAre(x, "not below 4", 10, 4, 5, 8, 7, 3, 3, 5, 2, 2, 4, 2, 2, 4);
        x.write(980, 10, 0, 0);
        gapsAre(x, "not above 999", 980, 495, 495, 999, 999, 499, 500, 999, 499, 500, 999, 499, 500, 999);
        x.write(4, 50, 0, 0);
        CHECKS.due("change 50", x.gap(13), 454);
        x.write(999, -50, 0, 0);
        CHECKS.due("change -50", x.gap(13), 549);
    }

    private static void writeSwaying() {
        SwipedStripe x = small();
        // the seed 0 becomes 12345, whose bits 16 to 30 are 0; then 12345 * 1103515245 + 12345 and so on
        int seed = 0;
        int[] due = {100, 50, 50, 100, 100, 50, 50, 100, 50, 50, 100, 50, 50, 100};
        for (int i = 0; i < due.length; i++) {
            seed = seed * 1103515245 + 12345;
            due[i] += ((seed & 0x7fff0000) >> 16) % 11 - 5;
        }
        CHECKS.due("the first is 5 shorter", due[0], 95);
        CHECKS.due("write", x.write(100, 0, 5, 0), 14);
        gapsAre(x, "swaying by 5", due);
        x.write(100, 0, 5, 0);
        gapsAre(x, "the same again", due);
        x.write(100, 0, 1, 0);
        CHECKS.due("swaying by 1", x.gap(0), 99);
        x.write(100, 0, 0, 77);
        CHECKS.due("no sway, whatever the seed", x.gap(0), 100);
        x.write(4, 0, 99, 0);
        CHECKS.due("1 at least", x.gap(0), 1);
        x.write(100, 0, 99, Integer.MIN_VALUE);
        CHECKS.due("the highest bit of the seed is none of them", x.gap(0), 1);
    }

    private static void writeRefused() {
        SwipedStripe x = small();
        x.write(60, 0, 0, 0);
        CHECKS.due("unit 3", x.write(3, 0, 0, 0), -1);
        CHECKS.due("unit 1000", x.write(1000, 0, 0, 0), -1);
        CHECKS.due("change -51", x.write(60, -51, 0, 0), -1);
        CHECKS.due("change 51", x.write(60, 51, 0, 0), -1);
        CHECKS.due("J -1", x.write(60, 0, -1, 0), -1);
        CHECKS.due("J 100", x.write(60, 0, 100, 0), -1);
        gapsAre(x, "as they were", 60, 30, 30, 60, 60, 30, 30, 60, 30, 30, 60, 30, 30, 60);
        // the stripe with the most 1s that there is still has room
        Hand.tell(x, "bits 6;begin 63;close 31;lead 20;tail 20;");
        for (int n = 0; n < 16; n++) {
            x.add(62);
        }
        CHECKS.due("the longest", x.write(60, 0, 0, 0), 40 + 19 * 7 + x.stripe(1));
    }

    private static void gapAndAlter() {
        SwipedStripe x = new SwipedStripe();
        CHECKS.due("gap of none", x.gap(0), -1);
        CHECKS.due("alter of none", x.alter(0, 5), -1);
        Hand.gaps(x, 10, 20, 30);
        gapsAre(x, "as given", 10, 20, 30);
        CHECKS.due("gap(-1)", x.gap(-1), -1);
        CHECKS.due("alter", x.alter(1, 9999), 20);
        CHECKS.due("alter again", x.alter(1, 1), 9999);
        CHECKS.due("alter to 0", x.alter(1, 0), -1);
        CHECKS.due("alter to 10000", x.alter(1, 10000), -1);
        CHECKS.due("alter(3, ..)", x.alter(3, 5), -1);
        CHECKS.due("alter(-1, ..)", x.alter(-1, 5), -1);
        gapsAre(x, "altered", 10, 1, 30);
    }

    private static void miss() {
        SwipedStripe x = new SwipedStripe();
        CHECKS.due("miss of none", x.miss(0), -1);
        Hand.gaps(x, 10, 20, 30, 9000, 999, 9000);
        CHECKS.due("miss(5): no next one", x.miss(5), -1);
        CHECKS.due("miss(6)", x.miss(6), -1);
        CHECKS.due("miss(-1)", x.miss(-1), -1);
        CHECKS.due("miss(1)", x.miss(1), 5);
        gapsAre(x, "with one missed", 10, 50, 9000, 999, 9000);
        CHECKS.due("miss(2)", x.miss(2), 4);
        gapsAre(x, "at the most", 10, 50, 9999, 9000);
        CHECKS.due("miss(2)", x.miss(2), 3);
        gapsAre(x, "not above the most", 10, 50, 9999);
        CHECKS.due("miss(0)", x.miss(0), 2);
        CHECKS.due("miss(0)", x.miss(0), 1);
        CHECKS.due("miss(0) of one", x.miss(0), -1);
        gapsAre(x, "of one", 9999);
    }

    private static void split() {
        SwipedStripe x = new SwipedStripe();
        CHECKS.due("split of none", x.split(0, 1), -1);
        Hand.gaps(x, 10, 20, 1);
        CHECKS.due("split into 0 and 20", x.split(1, 0), -1);
        CHECKS.due("split into 20 and 0", x.split(1, 20), -1);
        CHECKS.due("split(1, -1)", x.split(1, -1), -1);
        CHECKS.due("split of 1", x.split(2, 1), -1);
        CHECKS.due("split(3, 1)", x.split(3, 1), -1);
        CHECKS.due("split(-1, 1)", x.split(-1, 1), -1);
        CHECKS.due("split into 19 and 1", x.split(1, 19), 4);
        gapsAre(x, "split", 10, 19, 1, 1);
        CHECKS.due("split into 1 and 9", x.split(0, 1), 5);
        gapsAre(x, "split again", 1, 9, 19, 1, 1);
        Hand.many(x, 320);
        CHECKS.due("split of 320", x.split(0, 2), -3);
        CHECKS.due("BAD ahead of FULL", x.split(0, 101), -1);
        CHECKS.due("the first of 320", x.gap(0), 101);
        CHECKS.due("the last of 320", x.gap(319), 108);
        CHECKS.due("miss", x.miss(319 - 1), 319);
        CHECKS.due("split of 319", x.split(318, 214), 320);
        CHECKS.due("the last", x.gap(319), 1);
    }

    private static void turn() {
        SwipedStripe x = new SwipedStripe();
        CHECKS.due("turn of none", x.turn(), 0);
        Hand.gaps(x, 10, 20, 30, 40);
        CHECKS.due("turn", x.turn(), 4);
        gapsAre(x, "turned", 40, 30, 20, 10);
        x.miss(0);
        CHECKS.due("turn", x.turn(), 3);
        gapsAre(x, "turned, odd in number", 10, 20, 70);
    }
}
