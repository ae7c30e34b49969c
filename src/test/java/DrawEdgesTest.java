/** Promises 28 to 31 at their edges: DRAWS none and six, of no values and of 32, votes that are as many. */
public final class DrawEdgesTest {
    private static final Checks CHECKS = new Checks();

    public static void main(String[] args) {
        keepRefused();
        keepToTheFull();
        keepOfWrongOnes();
        joinedRefused();
        joinRefused();
        fewestAndMostPlaces();
        asManyAsMost();
        votes();
        leastAndGreatest();
        noneHasItsParity();
        placesAsBits();
        drop();
        CHECKS.finish();
    }

    /** 3 bits, BEGIN 1, CLOSE 2, no checks: a draw is its values, each with its PARITY. */
    private static SwipedStripe plain() {
        SwipedStripe x = new SwipedStripe();
        Hand.tell(x, "bits 3;begin 1;close 2;plain;");
        return x;
    }

    private static int keep(SwipedStripe x, String values) {
        Hand.bits(x, "0 1000" + values + "0100");
        return x.keep();
    }

    private static void joinedIs(SwipedStripe x, String when, int... due) {
        for (int what = 0; what < 4; what++) {
            CHECKS.due("joined(" + what + ") " + when, x.joined(what), due[what]);
        }
    }

    private static void joinIs(SwipedStripe x, String when, int... due) {
        for (int place = 0; place < due.length; place++) {
            CHECKS.due("join(" + place + ") " + when, x.join(place), due[place]);
        }
        CHECKS.bad("join " + when, x::join, -1, due.length, due.length + 1);
    }

    private static void keepRefused() {
        SwipedStripe x = plain();
        CHECKS.due("keep without gaps", x.keep(), -2);
        // VERDICT 3 and 4, each as it is, then failing 2 and 1
        for (String bits : new String[] {"0 000 0", "0 1000 0"}) {
            for (int last : new int[] {100, 300, 10}) {
                Hand.bits(x, bits);
                x.alter(x.count(1) - 1, last);
                CHECKS.due("keep of " + bits, x.keep(), -2);
            }
        }
        CHECKS.due("none is kept", x.count(3), 0);
        joinedIs(x, "of none", -2, -2, -2, -2);
    }

    private static void keepToTheFull() {
        SwipedStripe x = plain();
        for (int n = 0; n < 6; n++) {
            // six unlike ones
            CHECKS.due("keep", keep(x, new String[] {"0001", "1000", "0100", "1101", "0010", "1011"}[n].repeat(n + 1)), n);
            CHECKS.due("draws", x.count(3), n + 1);
        }
        joinedIs(x, "of 1 to 6 values", 6, 1, 0, 0);
        CHECKS.due("a 7th", keep(x, "0001"), -3);
        CHECKS.due("an 8th", x.keep(), -3);
        CHECKS.due("six are left", x.count(3), 6);
        joinedIs(x, "of 1 to 6 values as they were", 6, 1, 0, 0);
        Hand.bits(x, "0 000 0");
        CHECKS.due("STATE ahead of FULL", x.keep(), -2);
        x.wipe();
        CHECKS.due("STATE ahead of FULL", x.keep(), -2);
        CHECKS.due("six are left", x.count(3), 6);
        joinIs(x, "of six", 5, 5, 5, 5, 5, 5);
    }

    /** VERDICT 0, 5 and 6 have values to be kept. */
    private static void keepOfWrongOnes() {
        SwipedStripe x = new SwipedStripe();
        Hand.bits(x, "0 11010 01101 11111 01000");
        CHECKS.due("keep of VERDICT 0", x.keep(), 0);
        Hand.bits(x, "0 11010 01100 11111 01000");
        CHECKS.due("keep of VERDICT 5", x.keep(), 1);
        Hand.bits(x, "0 11010 10101 11111 01000");
        CHECKS.due("keep of VERDICT 6", x.keep(), 2);
        joinedIs(x, "of these", 1, 3, 0, 1);
        joinIs(x, "of these", 5);
    }

    private static void joinedRefused() {
        SwipedStripe x = plain();
        for (int n = 0; n < 2; n++) {
            CHECKS.bad("joined", x::joined, -1, 4);
            joinedIs(x, "of " + n, n == 0 ? new int[] {-2, -2, -2, -2} : new int[] {1, 1, 0, 0});
            keep(x, "0001");
        }
    }

    private static void joinRefused() {
        SwipedStripe x = plain();
        CHECKS.due("join(-1) without draws", x.join(-1), -1);
        CHECKS.due("join(least) without draws", x.join(Integer.MIN_VALUE), -1);
        CHECKS.due("join(0) without draws", x.join(0), -2);
        CHECKS.due("join(31) without draws", x.join(31), -2);
        keep(x, "0001 1011");
        joinIs(x, "of two places", 0, 5);
    }

    private static void fewestAndMostPlaces() {
        SwipedStripe x = plain();
        CHECKS.due("keep of no values", keep(x, ""), 0);
        joinedIs(x, "of no values", 0, 1, 0, 0);
        joinIs(x, "of no values");
        CHECKS.due("keep of 32 values", keep(x, "0001".repeat(31) + "1110"), 1);
        joinedIs(x, "of none and of 32", 32, 1, 0, 0);
        CHECKS.due("join(31)", x.join(31), 7);
        CHECKS.bad("join of 32", x::join, -1, 32, 33);
        // a 33rd is none that is FOUND
        CHECKS.due("keep of 33 values", keep(x, "0001".repeat(33)), -2);
        CHECKS.due("keep of no values", keep(x, ""), 2);
        joinedIs(x, "of none twice and of 32", 0, 2, 0, 0);
        joinIs(x, "of none twice and of 32");
    }

    /** Which number of values most DRAWS have, and of several numbers the greater one, in whatever order they came. */
    private static void asManyAsMost() {
        most("1", 1, 1);
        most("12", 2, 1);
        most("21", 2, 1);
        most("112", 1, 2);
        most("211", 1, 2);
        most("1122", 2, 2);
        most("2211", 2, 2);
        most("321123", 3, 2);
        most("311322", 3, 2);
        most("111222", 2, 3);
        most("222111", 2, 3);
        most("011000", 0, 4);
        most("010101", 1, 3);
        most("543210", 5, 1);
        most("333333", 3, 6);
        most("433333", 3, 5);
    }

    private static void most(String numbers, int places, int draws) {
        SwipedStripe x = plain();
        for (char n : numbers.toCharArray()) {
            keep(x, "0001".repeat(n - '0'));
        }
        joinedIs(x, "of as many as " + numbers, places, draws, 0, 0);
    }

    /** The value that most have; of several the least; only those with their PARITY and that number of values. */
    private static void votes() {
        vote(3, 0, "1101");
        vote(3, 1, "1101", "1011");
        vote(3, 1, "1011", "1101");
        vote(5, 1, "1101", "1011", "1011");
        vote(3, 1, "1101", "1101", "1011", "1011");
        vote(3, 1, "1011", "1011", "1101", "1101", "0111", "0111");
        vote(3, 1, "0111", "1011", "1101");
        vote(6, 1, "0111", "0111", "1101", "1011");
        vote(0, 1, "1110", "0001");
        vote(7, 1, "1110", "0001", "1110");
        vote(7, 0, "1110", "1110", "1110", "1110", "1110", "1110");
        vote(0, 1, "1110", "1110", "1110", "0001", "0001", "0001");
        vote(7, 1, "1110", "1110", "1110", "0001", "0001", "0000");
        // those without their PARITY have no say
        vote(7, 0, "1110", "0000", "0000", "1100", "1010", "0110");
        vote(0, 0, "0001", "1111", "1111", "1111", "1111", "1111");
        vote(7, 1, "1110", "0001", "1110", "0000", "0000", "0000");
        // nor those with another number of values
        vote(7, 0, "1110", "1110", "0001 0001", "0001 0001 0001", "");
        vote(0, 1, "1110", "0001", "1110 1110", "1110 1110 1110", "");
    }

    /** The least and the greatest value that there is: 0 and 63. */
    private static void leastAndGreatest() {
        SwipedStripe x = new SwipedStripe();
        Hand.tell(x, "bits 6;begin 1;close 2;plain;");
        Hand.bits(x, "0 1000000 1111111 0000001 1111111 0100000");
        x.keep();
        joinedIs(x, "of 63, 0, 63", 3, 1, 0, 0);
        joinIs(x, "of 63, 0, 63", 63, 0, 63);
        Hand.bits(x, "0 1000000 0000001 1111111 1111111 0100000");
        x.keep();
        joinedIs(x, "of 63, 0, 63 and 0, 63, 63", 3, 2, 0, 3);
        joinIs(x, "of 63, 0, 63 and 0, 63, 63", 0, 0, 63);
        x.keep();
        joinedIs(x, "of 63, 0, 63 and twice 0, 63, 63", 3, 3, 0, 3);
        joinIs(x, "of 63, 0, 63 and twice 0, 63, 63", 0, 63, 63);
    }

    private static void vote(int value, int disputed, String... draws) {
        SwipedStripe x = plain();
        int took = 0;
        for (String values : draws) {
            keep(x, values);
            took += values.length() == 4 ? 1 : 0;
        }
        String of = "of " + String.join(", ", draws);
        joinedIs(x, of, 1, took, 0, disputed);
        joinIs(x, of, value);
    }

    private static void noneHasItsParity() {
        SwipedStripe x = plain();
        for (int n = 1; n <= 6; n++) {
            keep(x, "0000 0001 1111");
            joinedIs(x, "of " + n + " without their PARITY", 3, n, 2, 0);
            joinIs(x, "of " + n + " without their PARITY", -4, 0, -4);
        }
        x.drop();
        keep(x, "0000 0001 1111");
        keep(x, "1000 0000 1111");
        joinedIs(x, "of two", 3, 2, 1, 0);
        joinIs(x, "of two", 1, 0, -4);
        x = plain();
        keep(x, "0000".repeat(32));
        joinedIs(x, "of 32 places", 32, 1, 32, 0);
        CHECKS.due("join(31)", x.join(31), -4);
    }

    /** The first of 32 places, the last, each of some, all of them. */
    private static void placesAsBits() {
        String[] others = {"1000" + "0001".repeat(31), "0001".repeat(31) + "1000", "1000".repeat(32),
            "0001" + "1000".repeat(30) + "0001"};
        int[] bits = {1, Integer.MIN_VALUE, -1, Integer.MAX_VALUE - 1};
        for (int n = 0; n < others.length; n++) {
            SwipedStripe x = plain();
            Hand.bits(x, "0 1000" + "0001".repeat(32) + "0100");
            x.keep();
            keep(x, others[n]);
            joinedIs(x, "of 32 places", 32, 2, 0, bits[n]);
        }
    }

    private static void drop() {
        SwipedStripe x = plain();
        CHECKS.due("drop of none", x.drop(), 0);
        for (int n = 0; n < 6; n++) {
            keep(x, "0001");
        }
        CHECKS.due("drop of six", x.drop(), 6);
        CHECKS.due("drop again", x.drop(), 0);
        CHECKS.due("none is left", x.count(3), 0);
        joinedIs(x, "of none", -2, -2, -2, -2);
        CHECKS.due("join of none", x.join(0), -2);
        CHECKS.due("gaps stay", x.found(0), 0);
        CHECKS.due("numbers begin again", x.keep(), 0);
        joinedIs(x, "of one", 1, 1, 0, 0);
        // what had its PARITY before has no say in what is kept now
        x.drop();
        keep(x, "0000");
        joinedIs(x, "of one without its PARITY", 1, 1, 1, 0);
        joinIs(x, "of one without its PARITY", -4);
    }
}
