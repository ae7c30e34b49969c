/** Promises 1 to 6 at their edges: THE TAPE empty and full, each byte there is, each number that a line may tell. */
public final class TextEdgesTest {
    private static final Checks CHECKS = new Checks();
    private static final int[] AT_FIRST = {4, 1, 11, 15, 5, 5, 40, 1, 1};
    private static final String[] NAMES = {"bits", "odd", "even", "begin", "close", "lead", "tail", "limit", "checked",
        "plain", "clock"};
    private static final long BLANKS = 0x2020202020202020L;

    public static void main(String[] args) {
        newObject();
        feedToTheFull();
        feedEachByte();
        feedAtALongsEdges();
        end();
        endKeepsTheFirst();
        textOfNone();
        textOfAll();
        faultsAtTheLastPlaces();
        names();
        numbers();
        numbersTooLong();
        beginAndClose();
        toldAlready();
        firstMet();
        fault();
        rule();
        CHECKS.finish();
    }

    private static void newObject() {
        SwipedStripe x = new SwipedStripe();
        rulesAre(x, "at first", AT_FIRST);
        int[] counts = {0, 0, 0, 0, 0, -4};
        for (int what = 0; what < counts.length; what++) {
            CHECKS.due("count(" + what + ") at first", x.count(what), counts[what]);
        }
        CHECKS.due("fault at first", x.fault(), 0);
        CHECKS.due("torn at first", x.torn(), 0);
        CHECKS.due("no value", x.value(0), -1);
        CHECKS.due("no gap", x.gap(0), -1);
        CHECKS.due("no draws", x.joined(0), -2);
        for (int k = 0; k < 4; k++) {
            CHECKS.due("sheet " + k + " has nothing", x.lay(k, 0, 1), -11);
        }
    }

    private static void rulesAre(SwipedStripe x, String when, int... due) {
        for (int what = 0; what < due.length; what++) {
            CHECKS.due("rule(" + what + ") " + when, x.rule(what), due[what]);
        }
    }

    /** From 0 to 160 bytes on THE TAPE: there is room for eight more as long as there are 152 at most. */
    private static void feedToTheFull() {
        for (int had = 0; had <= 160; had++) {
            SwipedStripe x = new SwipedStripe();
            for (int n = 0; n < 20; n++) {
                x.feed(BLANKS);
            }
            x.end(had);
            CHECKS.due("feed behind " + had, x.feed(BLANKS), had <= 152 ? had + 8 : -3);
            CHECKS.due("bytes then", x.count(4), had <= 152 ? had + 8 : had);
        }
    }

    /** One byte among blanks, at each of eight places: it tells what it is, and where it stands. */
    private static void feedEachByte() {
        for (int place = 0; place < 8; place++) {
            for (int v = 0; v < 256; v++) {
                SwipedStripe x = new SwipedStripe();
                int shift = 56 - 8 * place;
                x.feed(BLANKS & ~(255L << shift) | (long) v << shift);
                boolean isToken = v == ';' || v >= '0' && v <= '9';
                String call = "byte " + v + " at " + place;
                CHECKS.due(call, x.text(), v == ' ' ? 0 : -10 - place);
                CHECKS.due("fault of " + call, x.fault(), v == ' ' ? 0 : isToken ? 2 : 1);
            }
        }
    }

    private static void feedAtALongsEdges() {
        for (long v : new long[] {Long.MIN_VALUE, Long.MAX_VALUE, -1, 0, 1, Integer.MIN_VALUE, Integer.MAX_VALUE}) {
            SwipedStripe x = new SwipedStripe();
            CHECKS.due("feed(" + v + ")", x.feed(v), 8);
            CHECKS.due("feed(" + v + ") again", x.feed(v), 16);
            CHECKS.due("text of " + v, x.text(), -10);
            CHECKS.due("fault of " + v, x.fault(), 1);
        }
        SwipedStripe x = new SwipedStripe();
        // "odd" with the highest bit of each byte set, then as it is
        x.feed(0xefe4e4bb20202020L);
        CHECKS.due("bytes above 127 are no letters", x.text(), -10);
        x.feed(0x6f64643b20202020L);
        CHECKS.due("odd;", x.text(), 1);
    }

    private static void end() {
        SwipedStripe x = new SwipedStripe();
        CHECKS.due("end(0) of none", x.end(0), 0);
        CHECKS.bad("end of none", x::end, -1, 1, 8);
        x.feed(BLANKS);
        CHECKS.bad("end of 8", x::end, -1, 9, 160);
        CHECKS.due("a refused one leaves 8", x.count(4), 8);
        CHECKS.due("end(8) of 8", x.end(8), 8);
        CHECKS.due("end(7) of 8", x.end(7), 8);
        CHECKS.bad("end of 7", x::end, -1, 8);
        CHECKS.due("end(0) of 7", x.end(0), 7);
        CHECKS.due("none is left", x.count(4), 0);
        for (int n = 0; n < 20; n++) {
            x.feed(BLANKS);
        }
        CHECKS.bad("end of 160", x::end, -1, 161);
        CHECKS.due("end(160) of 160", x.end(160), 160);
        CHECKS.due("end(159) of 160", x.end(159), 160);
        CHECKS.due("end(1) of 159", x.end(1), 159);
        CHECKS.due("end(0) of 1", x.end(0), 1);
    }

    private static void endKeepsTheFirst() {
        SwipedStripe x = new SwipedStripe();
        // "lead 7;~", then "lead 1~~" and "7;      "
        x.feed(0x6c65616420373b7eL);
        x.end(7);
        CHECKS.due("the first seven of lead 7;~", x.text(), 1);
        CHECKS.due("lead", x.rule(4), 7);
        x.feed(0x6c65616420317e7eL);
        x.end(6);
        CHECKS.due("feed goes on behind them", x.feed(0x373b202020202020L), 14);
        CHECKS.due("lead 1 and 7;", x.text(), 1);
        CHECKS.due("lead", x.rule(4), 17);
    }

    private static void taken(String t, int lines, int... rules) {
        SwipedStripe x = new SwipedStripe();
        CHECKS.due("\"" + t + "\"", Hand.tell(x, t), lines);
        CHECKS.due("fault of \"" + t + "\"", x.fault(), 0);
        CHECKS.due("tape behind \"" + t + "\"", x.count(4), 0);
        rulesAre(x, "of \"" + t + "\"", rules);
    }

    private static void faulty(String t, int fault, int place) {
        SwipedStripe x = new SwipedStripe();
        CHECKS.due("\"" + t + "\"", Hand.tell(x, t), -10 - place);
        CHECKS.due("fault of \"" + t + "\"", x.fault(), fault);
        CHECKS.due("tape behind \"" + t + "\"", x.count(4), 0);
        rulesAre(x, "of \"" + t + "\"", AT_FIRST);
    }

    private static void textOfNone() {
        for (int n = 0; n <= 160; n++) {
            taken(" ".repeat(n), 0, AT_FIRST);
        }
        SwipedStripe x = new SwipedStripe();
        Hand.tell(x, "bits 6;even;begin 1;close 2;lead 3;tail 4;limit 6;plain;clock 2;");
        rulesAre(x, "as told", 6, 0, 1, 2, 3, 4, 6, 0, 2);
        x.add(63);
        x.write(100, 0, 0, 1);
        CHECKS.due("keep", x.keep(), 0);
        x.sheet(0, 1, 5);
        x.load(0, 1, 5, 1);
        CHECKS.due("a text of none", x.text(), 0);
        rulesAre(x, "of a text that tells none", AT_FIRST);
        int[] counts = {0, 0, 0, 0, 0, 5};
        for (int what = 0; what < counts.length; what++) {
            CHECKS.due("count(" + what + ") behind a text of none", x.count(what), counts[what]);
        }
        CHECKS.due("torn is none of the text", x.torn(), 2);
    }

    /** All nine lines on 160 bytes, the last ; at the last place; and with each number at its least, at its most. */
    private static void textOfAll() {
        String all = "bits 5;odd;begin 16;close 31;lead 2;tail 3;limit 44;checked;clock 0";
        taken(all + " ".repeat(159 - all.length()) + ";", 9, 5, 1, 16, 31, 2, 3, 44, 1, 0);
        taken(" ".repeat(159 - all.length()) + all + ";", 9, 5, 1, 16, 31, 2, 3, 44, 1, 0);
        taken("clock 0;plain;limit 5;tail 1;lead 1;close 1;begin 0;even;bits 3;", 9, 3, 0, 0, 1, 1, 1, 5, 0, 0);
        taken("clock 2;checked;limit 60;tail 20;lead 20;close 63;begin 62;odd;bits 6;", 9,
                6, 1, 62, 63, 20, 20, 60, 1, 2);
    }

    private static void faultsAtTheLastPlaces() {
        String blanks = " ".repeat(160);
        faulty(blanks.substring(1) + "~", 1, 159);
        faulty(blanks.substring(1) + ";", 2, 159);
        faulty(blanks.substring(1) + "7", 2, 159);
        faulty(blanks.substring(1) + "o", 1, 159);
        faulty(blanks.substring(3) + "odd", 2, 160);
        faulty("odd" + blanks.substring(3), 2, 160);
        faulty("lead" + blanks.substring(4), 2, 160);
        faulty("lead" + blanks.substring(5) + "7", 2, 160);
        faulty("lead" + blanks.substring(7) + "123", 1, 157);
        faulty("lead" + blanks.substring(6) + "21", 3, 158);
        faulty("odd;" + blanks.substring(7) + "odd", 4, 157);
        faulty("bits 3" + blanks.substring(7) + ";", 5, 160);
        faulty("bits 3;" + blanks.substring(7), 5, 160);
        faulty("~" + blanks.substring(1), 1, 0);
        faulty("odd", 2, 3);
        faulty("odd ", 2, 4);
        faulty("close 11;", 5, 9);
        faulty("close 11; ", 5, 10);
    }

    /** Each NAME, and what is a letter too long, too short, or beside a letter. */
    private static void names() {
        for (String name : NAMES) {
            faulty(name, 2, name.length());
            faulty(" " + name + " ", 2, name.length() + 2);
            faulty(name + "a", 1, 0);
            faulty(name + "z", 1, 0);
            faulty("a" + name, 1, 0);
            faulty("z" + name, 1, 0);
            faulty(name + name, 1, 0);
            faulty(name + "`", 1, name.length());
            faulty(name + "{", 1, name.length());
            faulty(name.toUpperCase(), 1, 0);
            for (int n = 1; n < name.length(); n++) {
                faulty("  " + name.substring(0, n) + ";", 1, 2);
                faulty("  " + name.substring(n) + ";", 1, 2);
                faulty(name.substring(0, n) + " " + name.substring(n) + ";", 1, 0);
            }
            for (int n = 0; n < name.length(); n++) {
                char other = (char) (name.charAt(n) == 'z' ? 'a' : name.charAt(n) + 1);
                faulty(name.substring(0, n) + other + name.substring(n + 1) + ";", 1, 0);
            }
        }
        faulty("a".repeat(160), 1, 0);
        faulty("odd;" + "z".repeat(156), 1, 4);
    }

    /** Each number of one or two figures behind each NAME: taken, or out of bounds where it stands. */
    private static void numbers() {
        String[] told = {"bits", "lead", "tail", "limit", "clock"};
        int[] what = {0, 4, 5, 6, 8};
        int[] least = {3, 1, 1, 5, 0};
        int[] most = {6, 20, 20, 60, 2};
        for (int k = 0; k < told.length; k++) {
            for (int n = 0; n < 100; n++) {
                // 0 and 1 are values of any bits
                String rest = "begin 0;close 1;";
                boolean fits = n >= least[k] && n <= most[k];
                int[] rules = AT_FIRST.clone();
                rules[2] = 0;
                rules[3] = 1;
                rules[what[k]] = n;
                for (String figures : n < 10 ? new String[] {"" + n, "0" + n} : new String[] {"" + n}) {
                    for (String between : new String[] {" ", "", "   "}) {
                        String t = told[k] + between + figures + ";" + rest;
                        if (fits) {
                            taken(t, 3, rules);
                        } else {
                            faulty(t, 3, told[k].length() + between.length());
                        }
                    }
                }
            }
        }
        for (int n = 64; n < 100; n++) {
            faulty("bits 6;begin " + n + ";", 3, 13);
            faulty("bits 6;close " + n + ";", 3, 13);
        }
    }

    private static void numbersTooLong() {
        for (String name : new String[] {"bits", "begin", "close", "lead", "tail", "limit", "clock"}) {
            for (String figures : new String[] {"000", "001", "004", "040", "100", "999", "0000", "2147483647",
                "4294967300", "18446744073709551620", "0".repeat(140)}) {
                faulty(name + " " + figures + ";", 1, name.length() + 1);
            }
        }
        faulty("lead 5 5;", 2, 7);
        faulty("lead 5a;", 1, 6);
        faulty("odd 123;", 1, 4);
        faulty("123;", 1, 0);
        faulty("12;", 2, 0);
        faulty("lead -5;", 1, 5);
        faulty("lead +5;", 1, 5);
        faulty("lead /;", 1, 5);
        faulty("lead :;", 1, 5);
        faulty("lead 5/;", 1, 6);
        faulty("lead 5:;", 1, 6);
    }

    /** Each pair of BEGIN and CLOSE, with each number of bits. */
    private static void beginAndClose() {
        for (int d = 3; d <= 6; d++) {
            for (int begin = 0; begin < 64; begin++) {
                for (int close = 0; close < 64; close++) {
                    String t = "bits " + d + ";begin " + begin + ";close " + close + ";";
                    SwipedStripe x = new SwipedStripe();
                    boolean sound = begin < 1 << d && close < 1 << d && begin != close;
                    CHECKS.due(t, Hand.tell(x, t), sound ? 3 : -10 - t.length());
                    CHECKS.due("fault of " + t, x.fault(), sound ? 0 : 5);
                    CHECKS.due("begin of " + t, x.rule(2), sound ? begin : 11);
                    CHECKS.due("close of " + t, x.rule(3), sound ? close : 15);
                }
            }
        }
        // told by themselves, they must be unlike those at first, and values of the bits at first
        for (int n = 0; n < 64; n++) {
            SwipedStripe x = new SwipedStripe();
            int place = n < 10 ? 8 : 9;
            CHECKS.due("begin " + n, Hand.tell(x, "begin " + n + ";"), n < 15 ? 1 : -10 - place);
            CHECKS.due("close " + n, Hand.tell(x, "close " + n + ";"), n < 16 && n != 11 ? 1 : -10 - place);
        }
        taken("bits 4;", 1, AT_FIRST);
        taken("bits 5;", 1, 5, 1, 11, 15);
        taken("bits 6;", 1, 6, 1, 11, 15);
        faulty("bits 3;begin 1;", 5, 15);
        faulty("bits 3;close 1;", 5, 15);
        taken("bits 3;close 0;begin 7;", 3, 3, 1, 7, 0);
    }

    /** Each line behind each other one: only what is told already is a fault, and that at its NAME. */
    private static void toldAlready() {
        String[] lines = {"bits 4;", "odd;", "even;", "begin 1;", "close 2;", "lead 5;", "tail 5;", "limit 9;",
            "checked;", "plain;", "clock 1;"};
        int[] rule = {0, 1, 1, 2, 3, 4, 5, 6, 7, 7, 8};
        for (int a = 0; a < lines.length; a++) {
            for (int b = 0; b < lines.length; b++) {
                String t = lines[a] + lines[b];
                if (rule[a] == rule[b]) {
                    faulty(t, 4, lines[a].length());
                    faulty(lines[a] + "   " + lines[b], 4, lines[a].length() + 3);
                } else {
                    taken(t, 2);
                }
            }
        }
        faulty("odd;lead 3;tail 3;plain;even;", 4, 24);
        faulty("checked;lead 3;tail 3;odd;plain;", 4, 26);
    }

    /** A TOKEN is read when the one before has been taken, with its number and with its having been told. */
    private static void firstMet() {
        // 1 ahead of 2: what is no TOKEN can not stand there either
        faulty("odd x;", 1, 4);
        faulty("bits x;", 1, 5);
        faulty("~", 1, 0);
        faulty("999", 1, 0);
        // 2 ahead of 4: a NAME that can not stand there tells nothing
        faulty("odd odd;", 2, 4);
        faulty("lead 5;tail lead 5;", 2, 12);
        // 2 ahead of 3: a NUMBER that can not stand there has no bounds
        faulty("odd 99;", 2, 4);
        faulty("lead 5 99;", 2, 7);
        // 3 ahead of what is behind the NUMBER
        faulty("lead 99~", 3, 5);
        faulty("lead 99 99;", 3, 5);
        faulty("lead 99", 3, 5);
        faulty("lead 99;odd;odd;", 3, 5);
        // 4 ahead of what is behind the NAME
        faulty("lead 5;lead~", 4, 7);
        faulty("lead 5;lead 99;", 4, 7);
        faulty("lead 5;lead", 4, 7);
        faulty("lead 5;lead;", 4, 7);
        faulty("odd;odd odd;", 4, 4);
        // what comes first, comes first
        faulty("lead;lead 99;", 2, 4);
        faulty("lead 99;lead 5;", 3, 5);
        faulty("; ~", 2, 0);
        faulty("~ ;", 1, 0);
        // 5 behind all
        faulty("bits 3;~", 1, 7);
        faulty("bits 3;odd", 2, 10);
        faulty("bits 3;lead 0;", 3, 12);
        faulty("bits 3;bits 3;", 4, 7);
    }

    private static void fault() {
        SwipedStripe x = new SwipedStripe();
        String[] texts = {"~", ";", "lead 0;", "odd;odd;", "bits 3;"};
        int[] places = {0, 0, 5, 4, 7};
        for (int n = 0; n < texts.length; n++) {
            CHECKS.due(texts[n], Hand.tell(x, texts[n]), -10 - places[n]);
            CHECKS.due("fault of " + texts[n], x.fault(), n + 1);
            CHECKS.due("and again", x.fault(), n + 1);
            Hand.feed(x, "odd;");
            CHECKS.due("as long as no text is told", x.fault(), n + 1);
        }
        CHECKS.due("odd;", x.text(), 1);
        CHECKS.due("fault of the latest", x.fault(), 0);
    }

    private static void rule() {
        SwipedStripe x = new SwipedStripe();
        CHECKS.bad("rule", x::rule, -1, 9, 10, -4);
        rulesAre(x, "at first", AT_FIRST);
    }
}
