import java.util.function.IntUnaryOperator;

/** Counts and prints the answers that are not the ones due; a test ends with finish(). */
final class Checks {
    /** The numbers at an int's own edges: only a seed and a CELL may be such a one. */
    static final int[] FAR = {Integer.MIN_VALUE, Integer.MIN_VALUE + 1, Integer.MAX_VALUE - 1, Integer.MAX_VALUE};

    private int made = 0;
    private int wrong = 0;

    void due(String call, long got, long want) {
        made++;
        if (got != want) {
            wrong++;
            if (wrong <= 40) {
                System.out.println(call + " answered " + got + ", due is " + want);
            }
        }
    }

    void holds(String what, boolean held) {
        made++;
        if (!held) {
            wrong++;
            System.out.println("does not hold: " + what);
        }
    }

    /** The call is BAD for each of these numbers, and for those at an int's own edges. */
    void bad(String call, IntUnaryOperator asked, int... numbers) {
        for (int n : numbers) {
            due(call + " of " + n, asked.applyAsInt(n), SwipedStripe.BAD);
        }
        for (int n : FAR) {
            due(call + " of " + n, asked.applyAsInt(n), SwipedStripe.BAD);
        }
    }

    void finish() {
        System.out.println(made + " answers looked at, " + wrong + " not as due");
        if (wrong != 0 || made == 0) {
            System.exit(1);
        }
    }
}
