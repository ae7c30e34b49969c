/** Promises 28 to 31: draws. Values of 4 bits and no checks: a draw is written as its values, each with its parity. */
public final class DrawsTest {
    private static final Checks CHECKS = new Checks();

    public static void main(String[] args) {
        refused();
        keep();
        kept();
        votes();
        numbers();
        places();
        drop();
        CHECKS.finish();
    }

    private static SwipedStripe plain() {
        SwipedStripe x = new SwipedStripe();
        Hand.tell(x, "plain;");
        return x;
    }

    private static int keep(SwipedStripe x, String values) {
        Hand.bits(x, "0 11010" + values + "11111");
        return x.keep();
    }

    private static void joinedIs(SwipedStripe x, String when, int... due) {
        for (int what = 0; what < 4; what++) {
            CHECKS.due("joined(" + what + ") " + when, x.joined(what), due[what]);
        }
        CHECKS.due("joined(4) " + when, x.joined(4), -1);
        CHECKS.due("joined(-1) " + when, x.joined(-1), -1);
    }

    private static void joinIs(SwipedStripe x, String when, int... due) {
        for (int place = 0; place < due.length; place++) {
            CHECKS.due("join(" + place + ") " + when, x.join(place), due[place]);
        }
        CHECKS.due("join beyond " + when, x.join(due.length), -1);
        CHECKS.due("join(-1) " + when, x.join(-1), -1);
    }

    private static void refused() {
        SwipedStripe x = plain();
        joinedIs(x, "without draws", -2, -2, -2, -2);
        CHECKS.due("join without draws", x.join(0), -2);
        CHECKS.due("join far beyond without draws", x.join(99), -2);
        CHECKS.due("join(-1) without draws", x.join(-1), -1);
        CHECKS.due("drop without draws", x.drop(), 0);
        CHECKS.due("keep without gaps", x.keep(), -2);
    }

    private static void keep() {
        SwipedStripe x = new SwipedStripe();
        Hand.bits(x, "0 00000 00000");
        CHECKS.due("keep of VERDICT 3", x.keep(), -2);
        Hand.bits(x, "0 11010 01101");
        CHECKS.due("keep of VERDICT 4", x.keep(), -2);
        x.split(x.count(1) - 1, 20);
        CHECKS.due("keep of VERDICT 1 or 2", x.keep(), -2);
        CHECKS.due("none kept", x.count(3), 0);
        Hand.bits(x, "0 11010 01101 11111 01000");
        CHECKS.due("keep of VERDICT 0", x.keep(), 0);
        Hand.bits(x, "0 11010 01100 11111 01000");
        CHECKS.due("keep of VERDICT 5", x.keep(), 1);
        Hand.bits(x, "0 11010 10101 11111 01000");
        CHECKS.due("keep of VERDICT 6", x.keep(), 2);
        for (int n = 3; n < 6; n++) {
            CHECKS.due("keep", x.keep(), n);
        }
        CHECKS.due("a 7th", x.keep(), -3);
        CHECKS.due("6 kept", x.count(3), 6);
        x.wipe();
        CHECKS.due("STATE ahead of FULL", x.keep(), -2);
        CHECKS.due("wiping gaps leaves draws", x.count(3), 6);
        // 6 once with its parity and once without; 5 four times
        joinIs(x, "of all these", 5);
        joinedIs(x, "of all these", 1, 6, 0, 1);
    }

    private static void kept() {
        SwipedStripe x = plain();
        keep(x, "01101 10000");
        Hand.gaps(x, 7, 7, 7);
        x.clear();
        joinedIs(x, "of one", 2, 1, 0, 0);
        joinIs(x, "of one", 6, 1);
    }

    private static void votes() {
        SwipedStripe x = plain();
        keep(x, "10000 01000 00000");
        joinedIs(x, "of one, a parity wrong", 3, 1, 1, 0);
        joinIs(x, "of one, a parity wrong", 1, 2, -4);
        keep(x, "01000 01000 00001");
        joinedIs(x, "of two", 3, 2, 0, 1);
        // of 1 and 2, once each, the least; the 0 without its parity has no say
        joinIs(x, "of two", 1, 2, 0);
        keep(x, "01000 10001 10000");
        joinedIs(x, "of three", 3, 3, 0, 5);
        joinIs(x, "of three", 2, 2, 0);
        keep(x, "00010 01000 10000");
        joinedIs(x, "of four", 3, 4, 0, 5);
        joinIs(x, "of four", 2, 2, 1);
        keep(x, "01001 00000 10001");
        keep(x, "00011 00000 10001");
        joinedIs(x, "of six", 3, 6, 0, 5);
        joinIs(x, "of six", 2, 2, 1);
    }

    private static void numbers() {
        SwipedStripe x = plain();
        keep(x, "10000");
        keep(x, "01000 01000");
        // of 1 and 2 values, once each, the greater number
        joinedIs(x, "of 1 and 2", 2, 1, 0, 0);
        joinIs(x, "of 1 and 2", 2, 2);
        keep(x, "00100");
        joinedIs(x, "of 1, 2, 1", 1, 2, 0, 1);
        joinIs(x, "of 1, 2, 1", 1);
        keep(x, "00010 10000");
        joinedIs(x, "of 1, 2, 1, 2", 2, 2, 0, 3);
        joinIs(x, "of 1, 2, 1, 2", 2, 1);
        keep(x, "");
        keep(x, "");
        joinedIs(x, "of 1, 2, 1, 2, 0, 0", 2, 2, 0, 3);
        x.drop();
        keep(x, "");
        keep(x, "");
        keep(x, "10000");
        joinedIs(x, "of 0, 0, 1", 0, 2, 0, 0);
        joinIs(x, "of 0, 0, 1");
    }

    private static void places() {
        SwipedStripe x = new SwipedStripe();
        Hand.tell(x, "bits 3;begin 1;close 2;plain;");
        Hand.bits(x, "0 1000" + "0001".repeat(31) + "1110 0100");
        x.keep();
        Hand.bits(x, "0 1000" + "0001".repeat(31) + "0010 0100");
        x.keep();
        joinedIs(x, "of 32 places", 32, 2, 0, 1 << 31);
        CHECKS.due("the last of 32", x.join(31), 4);
        SwipedStripe y = new SwipedStripe();
        Hand.tell(y, "bits 6;begin 1;close 2;plain;");
        Hand.bits(y, "0 1000000 1111110 0000001 1111110 0100000");
        y.keep();
        y.keep();
        joinIs(y, "of the greatest value without its parity and the least with it", -4, 0, -4);
        joinedIs(y, "of two", 3, 2, 2, 0);
        Hand.bits(y, "0 1000000 1111111 0000000 1111111 0100000");
        y.keep();
        joinIs(y, "of the greatest value with its parity", 63, 0, 63);
        x = new SwipedStripe();
        Hand.tell(x, "bits 3;begin 1;close 2;plain;");
        Hand.bits(x, "0 1000" + "0000".repeat(32) + "0100");
        x.keep();
        joinedIs(x, "of 32 places, all wrong", 32, 1, 32, 0);
        CHECKS.due("the last of 32, wrong", x.join(31), -4);
    }

    private static void drop() {
        SwipedStripe x = plain();
        keep(x, "10000");
        keep(x, "10000");
        CHECKS.due("drop", x.drop(), 2);
        CHECKS.due("none are left", x.count(3), 0);
        CHECKS.due("joined behind drop", x.joined(0), -2);
        CHECKS.due("keep behind drop", keep(x, "01000"), 0);
        joinIs(x, "behind drop", 2);
        CHECKS.due("a text drops them", Hand.tell(x, ""), 0);
        CHECKS.due("none are left", x.drop(), 0);
    }
}
