/** Promises 7 to 11 at their edges: THE ROW empty and full, each value there is, the shortest and the longest STRIPE. */
public final class RowEdgesTest {
    private static final Checks CHECKS = new Checks();

    public static void main(String[] args) {
        eachValue();
        full();
        clear();
        value();
        eachStripe();
        checks();
        stripeRefused();
        CHECKS.finish();
    }

    /** Of each number of bits: the least and the greatest value are taken, those beside them and BEGIN, CLOSE are not. */
    private static void eachValue() {
        for (int d = 3; d <= 6; d++) {
            int most = (1 << d) - 1;
            valuesOf("bits " + d + ";begin 1;close 2;", most, 1, 2);
            valuesOf("bits " + d + ";begin 0;close " + most + ";", most, 0, most);
            valuesOf("bits " + d + ";begin " + most + ";close 0;", most, most, 0);
        }
        valuesOf("", 15, 11, 15);
    }

    private static void valuesOf(String rules, int most, int begin, int close) {
        for (int v = -2; v <= 130; v++) {
            SwipedStripe x = new SwipedStripe();
            Hand.tell(x, rules);
            boolean fits = v >= 0 && v <= most && v != begin && v != close;
            CHECKS.due("add(" + v + ") " + rules, x.add(v), fits ? 1 : -1);
            CHECKS.due("values then", x.count(0), fits ? 1 : 0);
            CHECKS.due("value(0) then", x.value(0), fits ? v : -1);
        }
        SwipedStripe x = new SwipedStripe();
        Hand.tell(x, rules);
        CHECKS.bad("add", x::add, most + 1, -1);
    }

    private static void full() {
        SwipedStripe x = new SwipedStripe();
        for (int n = 1; n <= 16; n++) {
            CHECKS.due("add", x.add(n % 10), n);
        }
        CHECKS.due("a 17th", x.add(3), -3);
        CHECKS.due("an 18th", x.add(0), -3);
        CHECKS.bad("BAD ahead of FULL: add", x::add, -1, 16, 11, 15);
        CHECKS.due("16 are left", x.count(0), 16);
        for (int i = 0; i < 16; i++) {
            CHECKS.due("value(" + i + ")", x.value(i), (i + 1) % 10);
        }
        CHECKS.due("none beyond", x.value(16), -1);
        CHECKS.due("clear", x.clear(), 16);
        CHECKS.due("room again", x.add(9), 1);
        CHECKS.due("the first of a new row", x.value(0), 9);
        CHECKS.due("none of the old one", x.value(1), -1);
    }

    private static void clear() {
        SwipedStripe x = new SwipedStripe();
        CHECKS.due("clear of none", x.clear(), 0);
        x.add(1);
        x.write(10, 0, 0, 0);
        CHECKS.due("keep", x.keep(), 0);
        CHECKS.due("clear of one", x.clear(), 1);
        CHECKS.due("clear again", x.clear(), 0);
        CHECKS.due("no values", x.count(0), 0);
        CHECKS.due("gaps stay", x.symbol(0), 1);
        CHECKS.due("draws stay", x.join(0), 1);
    }

    private static void value() {
        SwipedStripe x = new SwipedStripe();
        CHECKS.bad("value of none", x::value, -1, 0, 1, 15);
        x.add(7);
        CHECKS.bad("value of one", x::value, -1, 1, 2, 15);
        CHECKS.due("value(0) of one", x.value(0), 7);
        x.add(0);
        CHECKS.due("value(1) of two", x.value(1), 0);
        CHECKS.bad("value of two", x::value, -1, 2);
    }

    /** The least and the most of LEAD, TAIL, bits, values; CHECKED and plain; odd and even. */
    private static void eachStripe() {
        for (int d = 3; d <= 6; d++) {
            for (int lead : new int[] {1, 20}) {
                for (int tail : new int[] {1, 20}) {
                    for (int n : new int[] {0, 1, 16}) {
                        for (int odd = 0; odd < 2; odd++) {
                            stripeOf(d, lead, tail, n, odd, true);
                            stripeOf(d, lead, tail, n, odd, false);
                        }
                    }
                }
            }
        }
    }

    private static void stripeOf(int d, int lead, int tail, int n, int odd, boolean checked) {
        int most = (1 << d) - 1;
        int begin = most - 1;
        int close = 1;
        SwipedStripe x = new SwipedStripe();
        String rules = "bits " + d + ";begin " + begin + ";close " + close + ";lead " + lead + ";tail " + tail
                + (odd == 1 ? ";odd;" : ";even;") + (checked ? "checked;" : "plain;");
        Hand.tell(x, rules);
        StringBuilder due = new StringBuilder("0".repeat(lead)).append(symbol(begin, d, odd));
        int all = begin;
        for (int i = 0; i < n; i++) {
            // the least value, the greatest one, and such as are between
            int v = i % 3 == 0 ? most : i % 3 == 1 ? 0 : 2 + i % 4;
            CHECKS.due("add(" + v + ") " + rules, x.add(v), i + 1);
            due.append(symbol(v, d, odd));
            all ^= v;
        }
        all ^= close;
        due.append(symbol(close, d, odd)).append(checked ? symbol(all, d, odd) : "").append("0".repeat(tail));
        String of = " of " + n + " values, " + rules;
        CHECKS.due("stripe(0)" + of, x.stripe(0), lead + tail + (d + 1) * (n + (checked ? 3 : 2)));
        CHECKS.due("stripe(1)" + of, x.stripe(1), due.toString().replace("0", "").length());
        CHECKS.due("stripe(2)" + of, x.stripe(2), checked ? all : -4);
        for (int i = 0; i < due.length(); i++) {
            CHECKS.due("bit(" + i + ")" + of, x.bit(i), due.charAt(i) - '0');
        }
        CHECKS.bad("bit" + of, x::bit, -1, due.length(), due.length() + 1);
    }

    /** The bits of a value from the lowest on, then a 1 or a 0, so that 1s are odd or even in number. */
    private static String symbol(int v, int d, int odd) {
        StringBuilder bits = new StringBuilder();
        int ones = 0;
        for (int weight = 1; weight < 1 << d; weight *= 2) {
            int bit = v / weight % 2;
            bits.append(bit);
            ones += bit;
        }
        return bits.append(ones % 2 == odd ? 0 : 1).toString();
    }

    /** No check, each one by itself, and all of them. */
    private static void checks() {
        SwipedStripe x = new SwipedStripe();
        Hand.tell(x, "bits 6;begin 1;close 2;");
        CHECKS.due("checks of 1 and 2", x.stripe(2), 3);
        x.add(3);
        CHECKS.due("checks of 1, 3, 2", x.stripe(2), 0);
        for (int k = 2; k < 6; k++) {
            x.add(1 << k);
            CHECKS.due("checks, and one more of " + k, x.stripe(2), (1 << k + 1) - 4);
        }
        x.add(3);
        CHECKS.due("all checks", x.stripe(2), 63);
        x.add(63);
        CHECKS.due("no check", x.stripe(2), 0);
        Hand.tell(x, "plain;");
        CHECKS.due("checks of a plain one", x.stripe(2), -4);
    }

    private static void stripeRefused() {
        SwipedStripe x = new SwipedStripe();
        CHECKS.bad("stripe", x::stripe, -1, 3, 4);
        CHECKS.bad("bit", x::bit, -1, 25, 26);
        CHECKS.due("the last bit", x.bit(24), 0);
        CHECKS.due("the first bit", x.bit(0), 0);
        Hand.tell(x, "plain;");
        CHECKS.bad("stripe of a plain one", x::stripe, -1, 3);
        CHECKS.bad("bit of a plain one", x::bit, -1, 20);
    }
}
