import java.util.ArrayList;
import java.util.Collections;
import java.util.List;
import java.util.Random;

/** Long runs of calls, by chance but the same each time, on the class and on the model: all answers must be alike. */
public final class SideBySideTest {
    private static final int[] ODD_NUMBERS = {Integer.MIN_VALUE, Integer.MIN_VALUE + 1, -320, -65, -10, -2, -1, 0, 1, 2,
        3, 4, 5, 15, 16, 31, 32, 33, 63, 64, 65, 99, 100, 160, 173, 319, 320, 321, 9999, 10000, Integer.MAX_VALUE - 64,
        Integer.MAX_VALUE - 1, Integer.MAX_VALUE};
    private static final int CALLS = 512;

    private final Random chance;
    private final SwipedStripe x = new SwipedStripe();
    private final Model m = new Model();
    private final List<String> calls = new ArrayList<>();
    private boolean same = true;

    private SideBySideTest(long seed) {
        chance = new Random(seed);
    }

    public static void main(String[] args) {
        int runs = args.length > 0 ? Integer.parseInt(args[0]) : 1500;
        int wrong = 0;
        long made = 0;
        for (int seed = 0; seed < runs; seed++) {
            SideBySideTest run = new SideBySideTest(seed);
            run.go();
            made += run.calls.size();
            if (!run.same) {
                wrong++;
                System.out.println("run " + seed + ": " + run.calls);
                if (wrong == 3) {
                    break;
                }
            }
        }
        System.out.println(made + " answers set side by side, " + wrong + " runs not alike");
        if (wrong != 0) {
            System.exit(1);
        }
    }

    private void go() {
        while (calls.size() < CALLS && same) {
            switch (chance.nextInt(40) == 0 ? 10 : chance.nextInt(10)) {
                case 0 -> tellText();
                case 1 -> fillRow();
                case 2, 3 -> writeStripe();
                case 4 -> spoilGaps();
                case 5 -> useSheets();
                case 6 -> keepSome();
                case 7 -> anyCall();
                case 10 -> loadMany();
                default -> askAll();
            }
        }
    }

    private int upTo(int n) {
        return chance.nextInt(n + 1);
    }

    private int between(int least, int most) {
        return least + upTo(most - least);
    }

    private int odd() {
        return ODD_NUMBERS[chance.nextInt(ODD_NUMBERS.length)];
    }

    private int near(int n) {
        return chance.nextInt(12) == 0 ? odd() : between(-1, Math.max(n, 1));
    }

    private void due(String call, int got, int want) {
        if (!same || calls.size() >= CALLS) {
            return;
        }
        calls.add(call + " " + got);
        if (got != want) {
            same = false;
            System.out.println(call + " answered " + got + ", due is " + want + "; " + m);
        }
    }

    // ---- the text

    private void tellText() {
        String t = chance.nextInt(3) == 0 ? anyText() : fairText();
        if (chance.nextInt(4) == 0 && !t.isEmpty()) {
            t = spoilt(t);
        }
        if (t.length() > 160) {
            t = t.substring(0, 160);
        }
        due("end", x.end(0), m.end(0));
        StringBuilder padded = new StringBuilder(t);
        while (padded.length() % 8 != 0) {
            padded.append((char) chance.nextInt(256));
        }
        feedAll(padded.toString());
        due("end " + t.length(), x.end(t.length()), m.end(t.length()));
        due("text \"" + t + "\"", x.text(), m.text());
        due("fault", x.fault(), m.fault());
        for (int what = 0; what < 9; what++) {
            due("rule " + what, x.rule(what), m.rule(what));
        }
    }

    private void feedAll(String t) {
        for (int i = 0; i < t.length(); i += 8) {
            long v = 0;
            for (int k = i; k < i + 8; k++) {
                v = v << 8 | (k < t.length() ? t.charAt(k) : ' ');
            }
            due("feed " + v, x.feed(v), m.feed(v));
        }
    }

    private String fairText() {
        int d = between(3, 6);
        int begin = upTo(chance.nextInt(8) == 0 ? 63 : (1 << d) - 1);
        int close = chance.nextInt(8) == 0 ? upTo(63) : (begin + 1 + upTo((1 << d) - 2)) % (1 << d);
        List<String> lines = new ArrayList<>(List.of("bits " + d + ";", "begin " + begin + ";", "close " + close + ";"));
        List<String> others = List.of("lead " + between(1, 20) + ";", "tail " + between(1, 20) + ";",
                "limit " + between(5, 60) + ";", "clock " + upTo(2) + ";", chance.nextBoolean() ? "odd;" : "even;",
                chance.nextInt(3) > 0 ? "checked;" : "plain;");
        others.stream().filter(o -> chance.nextBoolean()).forEach(lines::add);
        if (chance.nextInt(10) == 0) {
            lines.add(List.of("odd;", "even;", "plain;", "checked;", "tail 3;", "bits 5;").get(chance.nextInt(6)));
        }
        Collections.shuffle(lines, chance);
        StringBuilder b = new StringBuilder();
        for (String line : lines) {
            b.append(" ".repeat(Math.max(0, upTo(6) - 4)));
            b.append(chance.nextInt(6) == 0 ? line.replace(" ", "") : line);
        }
        return b.toString();
    }

    private String anyText() {
        String[] parts = {"bits ", "odd", "even", "begin ", "close ", "lead ", "tail ", "limit ", "checked", "plain",
            "clock ", ";", ";", ";", " ", "0", "1", "3", "4", "5", "20", "21", "60", "61", "63", "64", "100", "x",
            "" + (char) chance.nextInt(256), "odd;", "plain;", "bits 4;", "tail 7;", "lead 1;", "limit 9;"};
        StringBuilder b = new StringBuilder();
        for (int n = upTo(8); n > 0; n--) {
            b.append(parts[chance.nextInt(parts.length)]);
        }
        return b.toString();
    }

    private String spoilt(String t) {
        StringBuilder b = new StringBuilder(t);
        int at = chance.nextInt(t.length());
        switch (chance.nextInt(3)) {
            case 0 -> b.deleteCharAt(at);
            case 1 -> b.insert(at, " ;a09~{`:/".charAt(chance.nextInt(10)));
            default -> b.setLength(at);
        }
        return b.toString();
    }

    // ---- the row, gaps

    private void fillRow() {
        if (chance.nextInt(3) == 0) {
            due("clear", x.clear(), m.clear());
        }
        for (int n = upTo(chance.nextInt(6) == 0 ? 18 : 5); n > 0; n--) {
            int v = near((1 << m.rule(0)) + 1);
            due("add " + v, x.add(v), m.add(v));
        }
        int i = near(m.count(0));
        due("value " + i, x.value(i), m.value(i));
        for (int what = -1; what < 4; what++) {
            due("stripe " + what, x.stripe(what), m.stripe(what));
        }
        for (int n = 0; n < 4; n++) {
            int place = near(m.stripe(0));
            due("bit " + place, x.bit(place), m.bit(place));
        }
    }

    private void writeStripe() {
        int unit = chance.nextInt(10) == 0 ? odd() : between(4, chance.nextBoolean() ? 999 : 60);
        int change = chance.nextInt(10) == 0 ? odd() : chance.nextBoolean() ? 0 : between(-4, 4);
        int j = chance.nextInt(10) == 0 ? odd() : chance.nextBoolean() ? 0 : upTo(Math.min(99, Math.max(1, unit / 12)));
        int seed = chance.nextInt();
        String call = "write " + unit + " " + change + " " + j + " " + seed;
        due(call, x.write(unit, change, j, seed), m.write(unit, change, j, seed));
        int turns = chance.nextInt(4);
        for (int n = 0; n < turns; n++) {
            turnOneBit();
        }
    }

    /** Makes a 0 of a 1 or a 1 of a 0, as a hand's slip would, so that parities and checks go wrong. */
    private void turnOneBit() {
        int n = m.count(1);
        if (n < 2) {
            return;
        }
        int i = between(1, n - 1);
        int g = m.gap(i);
        if (m.gap(i + 1) > 0 && g + m.gap(i + 1) <= 3 * m.gap(0) / 2) {
            due("miss " + i, x.miss(i), m.miss(i));
        } else {
            due("split " + i + " " + g / 2, x.split(i, g / 2), m.split(i, g / 2));
        }
    }

    private void spoilGaps() {
        int n = m.count(1);
        int i = near(n);
        switch (chance.nextInt(5)) {
            case 0 -> {
                int v = chance.nextInt(3) == 0 ? odd() : between(1, 2 * Math.max(1, m.gap(i)));
                due("alter " + i + " " + v, x.alter(i, v), m.alter(i, v));
            }
            case 1 -> due("miss " + i, x.miss(i), m.miss(i));
            case 2 -> {
                int v = chance.nextInt(3) == 0 ? odd() : between(0, Math.max(1, m.gap(i)));
                due("split " + i + " " + v, x.split(i, v), m.split(i, v));
            }
            case 3 -> due("turn", x.turn(), m.turn());
            default -> {
                if (chance.nextInt(4) == 0) {
                    due("wipe", x.wipe(), m.wipe());
                }
            }
        }
        due("gap " + i, x.gap(i), m.gap(i));
    }

    // ---- sheets, draws

    private void useSheets() {
        int k = near(4);
        int lane = near(3);
        int n = chance.nextInt(4) == 0 ? odd() : upTo(64);
        if (chance.nextInt(3) > 0) {
            due("sheet " + k + " " + lane + " " + n, x.sheet(k, lane, n), m.sheet(k, lane, n));
        }
        int unit = between(2, 120);
        int cells = upTo(16);
        for (int i = 0; i < cells; i++) {
            int v = chance.nextInt(40) == 0 ? odd() : Math.max(1, (chance.nextBoolean() ? unit : unit / 2) + upTo(2));
            due("lay " + k + " " + i + " " + v, x.lay(k, i, v), m.lay(k, i, v));
        }
        int f = chance.nextInt(6) == 0 ? odd() : upTo(3);
        int some = chance.nextInt(6) == 0 ? odd() : upTo(Math.max(0, cells));
        int as = chance.nextInt(6) == 0 ? odd() : lane;
        for (int times = chance.nextInt(12) == 0 ? 30 : 1; times > 0; times--) {
            due("load " + k + " " + as + " " + f + " " + some, x.load(k, as, f, some), m.load(k, as, f, some));
        }
        due("torn", x.torn(), m.torn());
        for (int what = -1; what < 7; what++) {
            due("count " + what, x.count(what), m.count(what));
        }
    }

    private void keepSome() {
        for (int n = upTo(7); n > 0; n--) {
            int seed = chance.nextInt();
            if (chance.nextInt(3) == 0) {
                otherRow();
            }
            if (chance.nextInt(5) > 0) {
                due("write 100 0 3 " + seed, x.write(100, 0, 3, seed), m.write(100, 0, 3, seed));
                for (int turns = chance.nextInt(3); turns > 0; turns--) {
                    turnOneBit();
                }
            }
            due("keep", x.keep(), m.keep());
        }
        for (int what = -1; what < 5; what++) {
            due("joined " + what, x.joined(what), m.joined(what));
        }
        for (int place = -1; place < 6; place++) {
            due("join " + place, x.join(place), m.join(place));
        }
        if (chance.nextInt(3) == 0) {
            due("drop", x.drop(), m.drop());
        }
    }

    /** As many values, or one more or less, so that draws differ from one another. */
    private void otherRow() {
        int n = Math.max(0, m.count(0) + (chance.nextInt(3) == 0 ? between(-1, 1) : 0));
        due("clear", x.clear(), m.clear());
        for (int i = 0; i < n; i++) {
            int v = upTo(Math.min(3, (1 << m.rule(0)) - 1));
            due("add " + v, x.add(v), m.add(v));
        }
    }

    /** More symbols than a row can have, some 32 of them, loaded from sheets symbol by symbol. */
    private void loadMany() {
        int odd = chance.nextInt(2);
        int d = 3;
        String rules = "bits 3;begin 1;close 2;" + (odd == 1 ? "odd;" : "even;") + (chance.nextBoolean() ? "plain;" : "");
        due("end", x.end(0), m.end(0));
        feedAll(rules);
        due("text", x.text(), m.text());
        due("sheet 0 2 1", x.sheet(0, 2, 1), m.sheet(0, 2, 1));
        due("lay 0 0 40", x.lay(0, 0, 40), m.lay(0, 0, 40));
        due("load 0 2 0 1", x.load(0, 2, 0, 1), m.load(0, 2, 0, 1));
        int many = between(30, 34);
        int some = chance.nextInt(8);
        loadSymbol(1, 1, d, odd, 1);
        loadSymbol(2, some == 2 ? 3 : some, d, odd, many);
        loadSymbol(3, 2, d, odd, 1);
        loadSymbol(1, chance.nextInt(8), d, odd, 1);
        askAll();
        due("keep", x.keep(), m.keep());
        due("joined 0", x.joined(0), m.joined(0));
        due("joined 3", x.joined(3), m.joined(3));
        due("join 31", x.join(31), m.join(31));
    }

    private void loadSymbol(int k, int v, int d, int odd, int times) {
        int parity = (Integer.bitCount(v) + odd + (chance.nextInt(9) == 0 ? 1 : 0)) % 2;
        int coded = v | parity << d;
        int cells = d + 1 + Integer.bitCount(coded);
        due("sheet " + k, x.sheet(k, 2, cells), m.sheet(k, 2, cells));
        int at = 0;
        for (int i = 0; i <= d; i++) {
            boolean one = (coded >> i & 1) == 1;
            for (int n = one ? 2 : 1; n > 0; n--) {
                int g = one ? 20 : 40;
                due("lay " + k + " " + at + " " + g, x.lay(k, at, g), m.lay(k, at, g));
                at++;
            }
        }
        for (int n = 0; n < times; n++) {
            due("load " + k, x.load(k, 2, 0, cells), m.load(k, 2, 0, cells));
        }
    }

    // ---- asking

    private void askAll() {
        for (int clock = 0; clock < 3; clock++) {
            int what = near(3);
            due("read " + clock + " " + what, x.read(clock, what), m.read(clock, what));
            due("margin " + clock + " 0", x.margin(clock, 0), m.margin(clock, 0));
            due("margin " + clock + " 1", x.margin(clock, 1), m.margin(clock, 1));
        }
        for (int what = -1; what < 6; what++) {
            due("found " + what, x.found(what), m.found(what));
        }
        for (int what = -1; what < 4; what++) {
            due("mended " + what, x.mended(what), m.mended(what));
        }
        for (int what = -1; what < 4; what++) {
            due("smooth " + what, x.smooth(what), m.smooth(what));
        }
        for (int n = 0; n < 4; n++) {
            int i = near(m.count(1));
            due("heard " + i, x.heard(i), m.heard(i));
            due("smoothBit " + i, x.smoothBit(i), m.smoothBit(i));
            int k = near(6);
            due("symbol " + k, x.symbol(k), m.symbol(k));
        }
        due("way", x.way(), m.way());
        due("sway", x.sway(), m.sway());
    }

    private void anyCall() {
        int a = odd();
        int b = odd();
        int c = odd();
        int d = odd();
        String with = " " + a + " " + b + " " + c + " " + d;
        switch (chance.nextInt(30)) {
            case 0 -> due("end" + with, x.end(a), m.end(a));
            case 1 -> due("rule" + with, x.rule(a), m.rule(a));
            case 2 -> due("add" + with, x.add(a), m.add(a));
            case 3 -> due("value" + with, x.value(a), m.value(a));
            case 4 -> due("stripe" + with, x.stripe(a), m.stripe(a));
            case 5 -> due("bit" + with, x.bit(a), m.bit(a));
            case 6 -> due("write" + with, x.write(a, b, c, d), m.write(a, b, c, d));
            case 7 -> due("gap" + with, x.gap(a), m.gap(a));
            case 8 -> due("alter" + with, x.alter(a, b), m.alter(a, b));
            case 9 -> due("miss" + with, x.miss(a), m.miss(a));
            case 10 -> due("split" + with, x.split(a, b), m.split(a, b));
            case 11 -> due("read" + with, x.read(a, b), m.read(a, b));
            case 12 -> due("heard" + with, x.heard(a), m.heard(a));
            case 13 -> due("found" + with, x.found(a), m.found(a));
            case 14 -> due("symbol" + with, x.symbol(a), m.symbol(a));
            case 15 -> due("mended" + with, x.mended(a), m.mended(a));
            case 16 -> due("smooth" + with, x.smooth(a), m.smooth(a));
            case 17 -> due("smoothBit" + with, x.smoothBit(a), m.smoothBit(a));
            case 18 -> due("margin" + with, x.margin(a, b), m.margin(a, b));
            case 19 -> due("joined" + with, x.joined(a), m.joined(a));
            case 20 -> due("join" + with, x.join(a), m.join(a));
            case 21 -> due("sheet" + with, x.sheet(a, b, c), m.sheet(a, b, c));
            case 22 -> due("lay" + with, x.lay(a, b, c), m.lay(a, b, c));
            case 23 -> due("load" + with, x.load(a, b, c, d), m.load(a, b, c, d));
            case 24 -> due("count" + with, x.count(a), m.count(a));
            case 25 -> due("feed" + with, x.feed(0x6f64643b20202020L), m.feed(0x6f64643b20202020L));
            case 26 -> due("text" + with, x.text(), m.text());
            case 27 -> due("way", x.way(), m.way());
            case 28 -> due("sway", x.sway(), m.sway());
            default -> due("drop", x.drop(), m.drop());
        }
    }
}
