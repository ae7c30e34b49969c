/** Promises 1 to 6: a new object, and the text. */
public final class TextTest {
    private static final Checks CHECKS = new Checks();

    public static void main(String[] args) {
        newObject();
        feedAndEnd();
        linesAndBounds();
        faultNoToken();
        faultMisplaced();
        faultOutOfBounds();
        faultToldAlready();
        faultUnsound();
        firstFaultCounts();
        tellingAll();
        CHECKS.finish();
    }

    private static void newObject() {
        SwipedStripe x = new SwipedStripe();
        int[] first = {4, 1, 11, 15, 5, 5, 40, 1, 1};
        for (int what = 0; what < first.length; what++) {
            CHECKS.due("rule(" + what + ") at first", x.rule(what), first[what]);
        }
        CHECKS.due("rule(-1)", x.rule(-1), -1);
        CHECKS.due("rule(9)", x.rule(9), -1);
        for (int what = 0; what < 5; what++) {
            CHECKS.due("count(" + what + ") at first", x.count(what), 0);
        }
        CHECKS.due("count(5) at first", x.count(5), -4);
        CHECKS.due("fault at first", x.fault(), 0);
        CHECKS.due("torn at first", x.torn(), 0);
        for (int k = 0; k < 4; k++) {
            CHECKS.due("lay on nothing", x.lay(k, 0, 1), -11);
        }
    }

    private static void feedAndEnd() {
        SwipedStripe x = new SwipedStripe();
        CHECKS.due("end(0)", x.end(0), 0);
        CHECKS.due("end(1) of none", x.end(1), -1);
        for (int n = 1; n <= 20; n++) {
            CHECKS.due("feed", x.feed(0x2020202020202020L), 8 * n);
        }
        CHECKS.due("feed beyond 160", x.feed(0), -3);
        CHECKS.due("tape as it was", x.count(4), 160);
        CHECKS.due("end(161)", x.end(161), -1);
        CHECKS.due("end(-1)", x.end(-1), -1);
        CHECKS.due("end(160)", x.end(160), 160);
        CHECKS.due("end(153)", x.end(153), 160);
        CHECKS.due("feed to 161", x.feed(0), -3);
        CHECKS.due("end(152)", x.end(152), 153);
        CHECKS.due("feed to 160", x.feed(0x2020202020202020L), 160);
        CHECKS.due("160 blanks", x.text(), 0);
        CHECKS.due("tape is empty then", x.count(4), 0);
        // "lead 17;", its highest byte first
        x.feed(0x6c6561642031373bL);
        CHECKS.due("lead 17;", x.text(), 1);
        CHECKS.due("lead", x.rule(4), 17);
    }

    private static void told(String t, int lines, int what, int value) {
        SwipedStripe x = new SwipedStripe();
        CHECKS.due("\"" + t + "\"", Hand.tell(x, t), lines);
        CHECKS.due("fault of \"" + t + "\"", x.fault(), 0);
        CHECKS.due("rule(" + what + ") of \"" + t + "\"", x.rule(what), value);
    }

    private static SwipedStripe used() {
        SwipedStripe x = new SwipedStripe();
        x.add(7);
        x.write(50, 0, 0, 0);
        x.keep();
        return x;
    }

    private static SwipedStripe usedAndTold(String t) {
        SwipedStripe x = used();
        Hand.tell(x, t);
        return x;
    }

    private static void faulty(String t, int fault, int place) {
        SwipedStripe x = used();
        CHECKS.due("\"" + t + "\"", Hand.tell(x, t), -10 - place);
        CHECKS.due("fault of \"" + t + "\"", x.fault(), fault);
        CHECKS.due("tape behind \"" + t + "\"", x.count(4), 0);
        CHECKS.holds("\"" + t + "\" changes nothing",
                Seen.butTheTape(() -> usedAndTold(t)).equals(Seen.butTheTape(TextTest::used)));
    }

    private static void linesAndBounds() {
        told("", 0, 0, 4);
        told("   ", 0, 0, 4);
        told("bits 5;", 1, 0, 5);
        told("bits 6;", 1, 0, 6);
        told("bits 3;begin 0;close 7;", 3, 0, 3);
        told("odd;", 1, 1, 1);
        told("even;", 1, 1, 0);
        told("begin 0;", 1, 2, 0);
        told("begin 14;", 1, 2, 14);
        told("close 12;", 1, 3, 12);
        told("bits 6;begin 63;close 0;", 3, 2, 63);
        told("bits 6;begin 0;close 63;", 3, 3, 63);
        told("lead 1;", 1, 4, 1);
        told("lead 20;", 1, 4, 20);
        told("tail 1;", 1, 5, 1);
        told("tail 20;", 1, 5, 20);
        told("limit 5;", 1, 6, 5);
        told("limit 60;", 1, 6, 60);
        told("checked;", 1, 7, 1);
        told("plain;", 1, 7, 0);
        told("clock 0;", 1, 8, 0);
        told("clock 1;", 1, 8, 1);
        told("clock 2;", 1, 8, 2);
        told("  lead   7  ;  ", 1, 4, 7);
        told("lead7;tail8;", 2, 5, 8);
        told("lead 07;", 1, 4, 7);
        told("begin 00;", 1, 2, 0);
        told("bits 5;odd;begin 3;close 4;lead 2;tail 3;limit 44;plain;clock 2;", 9, 6, 44);
    }

    private static void faultNoToken() {
        faulty("hand 1;", 1, 0);
        faulty("bit 4;", 1, 0);
        faulty("aits 4;", 1, 0);
        faulty("bitt 4;", 1, 0);
        faulty("bitss 4;", 1, 0);
        faulty("Bits 4;", 1, 0);
        faulty("odd;  evenly;", 1, 6);
        faulty("odd;even7", 4, 4);
        faulty("lead 123;", 1, 5);
        faulty("lead 007;", 1, 5);
        faulty("lead -1;", 1, 5);
        faulty("odd\t;", 1, 3);
        faulty("odd" + (char) 0, 1, 3);
        faulty("odd" + (char) 255, 1, 3);
        faulty("odd~", 1, 3);
        faulty("lead x", 1, 5);
        faulty("oddeven;", 1, 0);
        faulty("{", 1, 0);
        faulty("`", 1, 0);
        faulty("lead :;", 1, 5);
        faulty("lead /;", 1, 5);
    }

    private static void faultMisplaced() {
        faulty(";", 2, 0);
        faulty("odd;;", 2, 4);
        faulty("7;", 2, 0);
        faulty("odd", 2, 3);
        faulty("odd  ", 2, 5);
        faulty("odd 7;", 2, 4);
        faulty("odd even;", 2, 4);
        faulty("bits", 2, 4);
        faulty("bits ;", 2, 5);
        faulty("bits bits 4;", 2, 5);
        faulty("bits 4", 2, 6);
        faulty("bits 4 4;", 2, 7);
        faulty("bits 4odd;", 2, 6);
    }

    private static void faultOutOfBounds() {
        faulty("bits 2;", 3, 5);
        faulty("bits 7;", 3, 5);
        faulty("begin 64;", 3, 6);
        faulty("close 64;", 3, 6);
        faulty("lead 0;", 3, 5);
        faulty("lead 21;", 3, 5);
        faulty("tail 0;", 3, 5);
        faulty("tail 21;", 3, 5);
        faulty("limit 4;", 3, 6);
        faulty("limit 61;", 3, 6);
        faulty("clock 3;", 3, 6);
        faulty("clock  99", 3, 7);
    }

    private static void faultToldAlready() {
        for (String line : new String[] {"bits 4;", "odd;", "even;", "begin 1;", "close 1;", "lead 5;", "tail 5;",
            "limit 9;", "checked;", "plain;", "clock 1;"}) {
            faulty(line + " " + line, 4, line.length() + 1);
        }
        faulty("odd;even;", 4, 4);
        faulty("even;odd;", 4, 5);
        faulty("checked;plain;", 4, 8);
        faulty("plain;checked;", 4, 6);
        faulty("lead 5;tail 5;lead 99;", 4, 14);
    }

    private static void faultUnsound() {
        faulty("bits 3;", 5, 7);
        faulty("bits 3;begin 7;", 5, 15);
        faulty("bits 3;close 7;", 5, 15);
        faulty("begin 15;", 5, 9);
        faulty("close 11;  ", 5, 11);
        faulty("begin 16;", 5, 9);
        faulty("close 63;", 5, 9);
        faulty("bits 3;begin 7;close 8;", 5, 23);
        faulty("bits 6;begin 15;", 5, 16);
    }

    private static void firstFaultCounts() {
        faulty("bits 9", 3, 5);
        faulty("bits 9;odd;odd;", 3, 5);
        faulty("odd;odd ~", 4, 4);
        faulty("begin 15;close ~", 1, 15);
        faulty("bits 3;lead", 2, 11);
    }

    private static void tellingAll() {
        SwipedStripe x = new SwipedStripe();
        Hand.tell(x, "bits 6;even;begin 1;close 2;lead 3;tail 4;limit 6;plain;clock 2;");
        x.add(63);
        x.write(100, 0, 0, 1);
        x.keep();
        x.sheet(0, 1, 5);
        x.load(0, 1, 5, 1);
        CHECKS.due("torn", x.torn(), 2);
        CHECKS.due("draws", x.count(3), 1);
        CHECKS.due("a faulty text", Hand.tell(x, "odd"), -13);
        CHECKS.due("fault", x.fault(), 2);
        CHECKS.due("row stays", x.count(0), 1);
        CHECKS.due("clock alone", Hand.tell(x, "clock 0;"), 1);
        CHECKS.due("fault is gone", x.fault(), 0);
        int[] due = {4, 1, 11, 15, 5, 5, 40, 1, 0};
        for (int what = 0; what < due.length; what++) {
            CHECKS.due("rule(" + what + ") is as at first, if not told", x.rule(what), due[what]);
        }
        CHECKS.due("row is empty", x.count(0), 0);
        CHECKS.due("gaps are empty", x.count(1), 0);
        CHECKS.due("draws are empty", x.count(3), 0);
        CHECKS.due("sheets stay", x.count(5), 5);
        CHECKS.due("torn stays", x.torn(), 2);
    }
}
