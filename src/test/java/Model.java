import java.math.BigInteger;
import java.nio.ByteBuffer;
import java.util.ArrayList;
import java.util.Arrays;
import java.util.Collections;
import java.util.HashMap;
import java.util.List;
import java.util.Map;
import java.util.TreeMap;
import java.util.regex.Matcher;
import java.util.regex.Pattern;

/**
 * The document once more, written apart from the class and in another manner: with the Java library, with what the
 * machine throws, and with trying out where the class reckons. Tests set the two side by side.
 */
final class Model {
    static final int BAD = -1, STATE = -2, FULL = -3, NONE = -4;

    private static final List<String> ORDER =
            List.of("bits", "parity", "begin", "close", "lead", "tail", "limit", "checks", "clock");

    private Map<String, Integer> told = firstRules();
    private String tape = "";
    private int fault = 0;
    private final List<Integer> row = new ArrayList<>();
    private final List<Integer> gaps = new ArrayList<>();
    private final List<List<int[]>> draws = new ArrayList<>();
    private final Object[] sheets = new Object[4];
    private int torn = 0;

    private static Map<String, Integer> firstRules() {
        Map<String, Integer> m = new HashMap<>();
        m.put("bits", 4);
        m.put("parity", 1);
        m.put("begin", 11);
        m.put("close", 15);
        m.put("lead", 5);
        m.put("tail", 5);
        m.put("limit", 40);
        m.put("checks", 1);
        m.put("clock", 1);
        return m;
    }

    // ---- the text

    int feed(long v) {
        if (tape.length() > 152) {
            return FULL;
        }
        StringBuilder b = new StringBuilder(tape);
        for (byte x : ByteBuffer.allocate(8).putLong(v).array()) {
            b.append((char) (x & 255));
        }
        tape = b.toString();
        return tape.length();
    }

    int end(int n) {
        int had = tape.length();
        if (n < 0 || n > had) {
            return BAD;
        }
        tape = tape.substring(0, n);
        return had;
    }

    private static final class TextFault extends RuntimeException {
        private static final long serialVersionUID = 1L;
        final int kind;
        final int place;

        TextFault(int kind, int place) {
            this.kind = kind;
            this.place = place;
        }
    }

    private static final class Tokens {
        private static final Pattern TOKEN = Pattern.compile(" *([a-z]+|[0-9]+|;|[^ ]|$)", Pattern.DOTALL);
        private static final List<String> WORDS =
                List.of("bits", "odd", "even", "begin", "close", "lead", "tail", "limit", "checked", "plain", "clock");
        private final Matcher matcher;
        private int place;
        private int next = 0;

        Tokens(String t) {
            matcher = TOKEN.matcher(t);
        }

        /** The next one; an empty one at the end. */
        String take() {
            if (!matcher.find(next)) {
                throw new IllegalStateException("a text has a token or an end from any place on");
            }
            String s = matcher.group(1);
            place = matcher.start(1);
            next = matcher.end();
            if (!s.isEmpty() && !s.equals(";") && !WORDS.contains(s) && !s.matches("[0-9]{1,2}")) {
                throw new TextFault(1, place);
            }
            return s;
        }
    }

    int text() {
        String t = tape;
        tape = "";
        Map<String, Integer> m = firstRules();
        int lines;
        try {
            lines = tellAll(t, m);
        } catch (TextFault f) {
            fault = f.kind;
            return -10 - f.place;
        }
        fault = 0;
        told = m;
        row.clear();
        gaps.clear();
        draws.clear();
        return lines;
    }

    private static int tellAll(String t, Map<String, Integer> m) {
        List<String> seen = new ArrayList<>();
        Tokens tokens = new Tokens(t);
        int lines = 0;
        for (String name = tokens.take(); !name.isEmpty(); name = tokens.take()) {
            int place = tokens.place;
            if (!Character.isLowerCase(name.charAt(0))) {
                throw new TextFault(2, place);
            }
            String key = switch (name) {
                case "odd", "even" -> "parity";
                case "checked", "plain" -> "checks";
                default -> name;
            };
            if (seen.contains(key)) {
                throw new TextFault(4, place);
            }
            seen.add(key);
            if (key.equals(name)) {
                String number = tokens.take();
                if (number.isEmpty() || !Character.isDigit(number.charAt(0))) {
                    throw new TextFault(2, tokens.place);
                }
                int v = Integer.parseInt(number);
                int[] b = bounds(key);
                if (v < b[0] || v > b[1]) {
                    throw new TextFault(3, tokens.place);
                }
                m.put(key, v);
            } else {
                m.put(key, name.equals("odd") || name.equals("checked") ? 1 : 0);
            }
            if (!tokens.take().equals(";")) {
                throw new TextFault(2, tokens.place);
            }
            lines++;
        }
        double values = Math.pow(2, m.get("bits"));
        if (m.get("begin") >= values || m.get("close") >= values || m.get("begin").equals(m.get("close"))) {
            throw new TextFault(5, t.length());
        }
        return lines;
    }

    private static int[] bounds(String key) {
        return switch (key) {
            case "bits" -> new int[] {3, 6};
            case "lead", "tail" -> new int[] {1, 20};
            case "limit" -> new int[] {5, 60};
            case "clock" -> new int[] {0, 2};
            default -> new int[] {0, 63};
        };
    }

    int fault() {
        return fault;
    }

    int rule(int what) {
        return what < 0 || what > 8 ? BAD : told.get(ORDER.get(what));
    }

    private int is(String key) {
        return told.get(key);
    }

    // ---- the row, the stripe

    int add(int value) {
        if (value < 0 || value >= Math.pow(2, is("bits")) || value == is("begin") || value == is("close")) {
            return BAD;
        }
        if (row.size() == 16) {
            return FULL;
        }
        row.add(value);
        return row.size();
    }

    int clear() {
        int n = row.size();
        row.clear();
        return n;
    }

    int value(int i) {
        return i < 0 || i >= row.size() ? BAD : row.get(i);
    }

    private String symbolText(int value) {
        StringBuilder b = new StringBuilder();
        for (int k = 0; k < is("bits"); k++) {
            b.append(value % 2);
            value /= 2;
        }
        boolean odd = b.chars().filter(c -> c == '1').count() % 2 == 1;
        return b.append(odd == (is("parity") == 1) ? '0' : '1').toString();
    }

    private int checksOf(List<Integer> symbols) {
        int checks = 0;
        for (int k = 0; k < is("bits"); k++) {
            int bit = k;
            if (symbols.stream().filter(s -> (s >> bit) % 2 == 1).count() % 2 == 1) {
                checks += 1 << k;
            }
        }
        return checks;
    }

    private List<Integer> rowSymbols() {
        List<Integer> all = new ArrayList<>(List.of(is("begin")));
        all.addAll(row);
        all.add(is("close"));
        return all;
    }

    private String stripeText() {
        StringBuilder b = new StringBuilder("0".repeat(is("lead")));
        List<Integer> all = rowSymbols();
        all.forEach(s -> b.append(symbolText(s)));
        if (is("checks") == 1) {
            b.append(symbolText(checksOf(all)));
        }
        return b.append("0".repeat(is("tail"))).toString();
    }

    int stripe(int what) {
        return switch (what) {
            case 0 -> stripeText().length();
            case 1 -> stripeText().replace("0", "").length();
            case 2 -> is("checks") == 1 ? checksOf(rowSymbols()) : NONE;
            default -> BAD;
        };
    }

    int bit(int i) {
        String s = stripeText();
        return i < 0 || i >= s.length() ? BAD : s.charAt(i) - '0';
    }

    // ---- gaps

    int write(int unit, int change, int j, int seed) {
        if (unit < 4 || unit > 999 || change < -50 || change > 50 || j < 0 || j > 99) {
            return BAD;
        }
        List<Integer> plain = new ArrayList<>();
        String s = stripeText();
        for (int i = 0; i < s.length(); i++) {
            int u = unit + i * change;
            u = u < 4 ? 4 : u > 999 ? 999 : u;
            if (s.charAt(i) == '0') {
                plain.add(u);
            } else {
                plain.add((int) Math.floor(u / 2.0));
                plain.add((int) Math.ceil(u / 2.0));
            }
        }
        if (plain.size() > 320) {
            return FULL;
        }
        gaps.clear();
        BigInteger state = BigInteger.valueOf(seed);
        for (int g : plain) {
            if (j > 0) {
                state = state.multiply(BigInteger.valueOf(1103515245)).add(BigInteger.valueOf(12345));
                int bits = state.shiftRight(16).mod(BigInteger.valueOf(32768)).intValue();
                g = g + bits % (2 * j + 1) - j;
            }
            gaps.add(g < 1 ? 1 : g);
        }
        return gaps.size();
    }

    private boolean isGapNumber(int i) {
        return i >= 0 && i < gaps.size();
    }

    int gap(int i) {
        return isGapNumber(i) ? gaps.get(i) : BAD;
    }

    int alter(int i, int v) {
        return !isGapNumber(i) || v < 1 || v > 9999 ? BAD : gaps.set(i, v);
    }

    int miss(int i) {
        if (i < 0 || i > gaps.size() - 2) {
            return BAD;
        }
        int next = gaps.remove(i + 1);
        gaps.set(i, Math.min(9999, gaps.get(i) + next));
        return gaps.size();
    }

    int split(int i, int v) {
        if (!isGapNumber(i) || v < 1 || gaps.get(i) - (long) v < 1) {
            return BAD;
        }
        if (gaps.size() == 320) {
            return FULL;
        }
        gaps.add(i + 1, gaps.get(i) - v);
        gaps.set(i, v);
        return gaps.size();
    }

    int turn() {
        Collections.reverse(gaps);
        return gaps.size();
    }

    // ---- reading

    /** One bit READ: what it is, its first GAP, T as it was read. */
    private record Heard(int bit, int g, int t) { }

    private record Run(List<Heard> bits, int fails, int at) {
        String text() {
            StringBuilder b = new StringBuilder();
            bits.forEach(h -> b.append(h.bit));
            return b.toString();
        }
    }

    private static Run run(List<Integer> gaps, int clock, int limit) {
        List<Heard> bits = new ArrayList<>();
        int t = gaps.get(0);
        bits.add(new Heard(0, t, t));
        int i = 1;
        while (i < gaps.size()) {
            int g = gaps.get(i);
            boolean zero = 4 * g > 3 * t;
            if (!zero && i == gaps.size() - 1) {
                return new Run(bits, 1, i);
            }
            int length = zero ? g : g + gaps.get(i + 1);
            if (100 * Math.abs(length - t) > limit * (long) t) {
                return new Run(bits, 2, i);
            }
            bits.add(new Heard(zero ? 0 : 1, g, t));
            i += zero ? 1 : 2;
            t = clock == 0 ? t : clock == 1 ? length : Math.floorDiv(3 * t + length, 4);
        }
        return new Run(bits, 0, NONE);
    }

    int read(int clock, int what) {
        if (clock < 0 || clock > 2 || what < 0 || what > 2) {
            return BAD;
        }
        if (gaps.isEmpty()) {
            return STATE;
        }
        Run r = run(gaps, clock, is("limit"));
        return new int[] {r.bits.size(), r.fails, r.at}[what];
    }

    int heard(int i) {
        if (gaps.isEmpty() || i < 0) {
            return BAD;
        }
        List<Heard> bits = run(gaps, is("clock"), is("limit")).bits;
        return i < bits.size() ? bits.get(i).bit : BAD;
    }

    private static final class Seen {
        int verdict;
        int begin = NONE;
        int values = NONE;
        int unsound = NONE;
        int checks = NONE;
        /** Each SYMBOL from BEGIN on: its value, and 1 if it has its PARITY. */
        List<int[]> symbols = new ArrayList<>();
    }

    private int[] symbolOf(String bits) {
        int value = Integer.parseInt(new StringBuilder(bits.substring(0, is("bits"))).reverse().toString(), 2);
        return new int[] {value, symbolText(value).equals(bits) ? 1 : 0};
    }

    private Seen look(List<Integer> some) {
        Run r = run(some, is("clock"), is("limit"));
        Seen seen = new Seen();
        String bits = r.text();
        int step = is("bits") + 1;
        seen.begin = bits.indexOf(symbolText(is("begin")));
        if (seen.begin < 0) {
            seen.begin = NONE;
            seen.verdict = r.fails != 0 ? r.fails : 3;
            return seen;
        }
        List<String> parts = new ArrayList<>();
        for (int i = seen.begin; i + step <= bits.length(); i += step) {
            parts.add(bits.substring(i, i + step));
        }
        int close = parts.indexOf(symbolText(is("close")));
        int whole = close + (is("checks") == 1 ? 2 : 1);
        if (close < 0 || close > 33 || whole > parts.size()) {
            seen.verdict = r.fails != 0 ? r.fails : 4;
            return seen;
        }
        parts.subList(0, whole).forEach(p -> seen.symbols.add(symbolOf(p)));
        seen.values = close - 1;
        seen.unsound = (int) seen.symbols.stream().filter(s -> s[1] == 0).count();
        List<Integer> ahead = new ArrayList<>();
        seen.symbols.subList(0, close + 1).forEach(s -> ahead.add(s[0]));
        seen.checks = is("checks") == 1 ? checksOf(ahead) ^ seen.symbols.get(close + 1)[0] : 0;
        seen.verdict = seen.unsound > 0 ? 5 : seen.checks != 0 ? 6 : 0;
        return seen;
    }

    int found(int what) {
        if (what < 0 || what > 4) {
            return BAD;
        }
        if (gaps.isEmpty()) {
            return STATE;
        }
        Seen s = look(gaps);
        return new int[] {s.verdict, s.begin, s.values, s.unsound, s.checks}[what];
    }

    private boolean noValues() {
        return gaps.isEmpty() || look(gaps).values == NONE;
    }

    int symbol(int i) {
        if (i < 0) {
            return BAD;
        }
        if (noValues()) {
            return STATE;
        }
        Seen s = look(gaps);
        return i < s.values ? s.symbols.get(i + 1)[0] : BAD;
    }

    int mended(int what) {
        if (what < 0 || what > 2) {
            return BAD;
        }
        if (noValues() || look(gaps).verdict == 0) {
            return STATE;
        }
        Seen s = look(gaps);
        if (is("checks") == 0 || s.unsound != 1) {
            return NONE;
        }
        int turned = NONE;
        for (int k = 0; k < is("bits"); k++) {
            if (s.checks == 1 << k) {
                turned = k;
            }
        }
        if (turned == NONE && s.checks != 0) {
            return NONE;
        }
        int which = 0;
        while (s.symbols.get(which)[1] == 1) {
            which++;
        }
        int value = s.symbols.get(which)[0];
        if (turned != NONE) {
            value = (value >> turned) % 2 == 1 ? value - (1 << turned) : value + (1 << turned);
        }
        return new int[] {which, value, turned}[what];
    }

    int way() {
        if (gaps.isEmpty()) {
            return STATE;
        }
        List<Integer> back = new ArrayList<>(gaps);
        Collections.reverse(back);
        return look(gaps).verdict == 0 ? 0 : look(back).verdict == 0 ? 1 : NONE;
    }

    /** A way to part the first GAPS: its sum, its bits, and how long the last bit is. */
    private record Way(int sum, String bits, int last) {
        boolean isBetterThan(Way other) {
            return other == null || sum < other.sum || sum == other.sum && bits.compareTo(other.bits) < 0;
        }
    }

    /** From the first GAP on, where the class goes from the last. */
    private Way smoothest() {
        int n = gaps.size();
        Way[][] best = new Way[n + 1][2];
        for (int i = 1; i <= n; i++) {
            for (int bit = 0; bit < 2; bit++) {
                int from = i - 1 - bit;
                if (from < 0) {
                    continue;
                }
                int g = gaps.get(from);
                int length = bit == 0 ? g : g + gaps.get(from + 1);
                int own = bit == 0 ? 0 : Math.abs(g - gaps.get(from + 1));
                if (from == 0) {
                    best[i][bit] = new Way(own, "" + bit, length);
                }
                for (Way w : best[from]) {
                    if (w != null) {
                        Way longer = new Way(w.sum + own + Math.abs(length - w.last), w.bits + bit, length);
                        if (longer.isBetterThan(best[i][bit])) {
                            best[i][bit] = longer;
                        }
                    }
                }
            }
        }
        return best[n][0].isBetterThan(best[n][1]) ? best[n][0] : best[n][1];
    }

    int smooth(int what) {
        if (what < 0 || what > 2) {
            return BAD;
        }
        if (gaps.isEmpty()) {
            return STATE;
        }
        Way w = smoothest();
        return new int[] {w.sum, w.bits.length(), w.bits.replace("0", "").length()}[what];
    }

    int smoothBit(int i) {
        if (gaps.isEmpty() || i < 0) {
            return BAD;
        }
        String bits = smoothest().bits;
        return i < bits.length() ? bits.charAt(i) - '0' : BAD;
    }

    int margin(int clock, int what) {
        if (clock < 0 || clock > 2 || what < 0 || what > 1) {
            return BAD;
        }
        if (gaps.isEmpty()) {
            return STATE;
        }
        List<Heard> bits = run(gaps, clock, is("limit")).bits;
        if (bits.size() == 1) {
            return NONE;
        }
        BigInteger[] least = null;
        for (Heard h : bits.subList(1, bits.size())) {
            BigInteger above = BigInteger.valueOf(Math.abs(4L * h.g - 3L * h.t));
            BigInteger below = BigInteger.valueOf(4L * h.t);
            if (least == null || above.multiply(least[1]).compareTo(least[0].multiply(below)) < 0) {
                least = new BigInteger[] {above, below};
            }
        }
        return least[what].divide(least[0].gcd(least[1])).intValue();
    }

    int sway() {
        if (gaps.isEmpty()) {
            return STATE;
        }
        Run r = run(gaps, 0, Integer.MAX_VALUE);
        if (r.fails != 0) {
            return STATE;
        }
        int j = 0;
        while (j < 99 && withstand(r.bits, j + 1)) {
            j++;
        }
        return j;
    }

    private static boolean withstand(List<Heard> bits, int j) {
        return bits.stream().skip(1).allMatch(h ->
                h.bit == 0 ? 4 * (h.g - j) > 3 * (h.t + j) : 4 * (h.g + j) <= 3 * (h.t - j));
    }

    // ---- draws

    int keep() {
        if (noValues()) {
            return STATE;
        }
        if (draws.size() == 6) {
            return FULL;
        }
        Seen s = look(gaps);
        draws.add(s.symbols.subList(1, s.values + 1));
        return draws.size() - 1;
    }

    private List<List<int[]>> partners() {
        TreeMap<Integer, List<List<int[]>>> bySize = new TreeMap<>();
        draws.forEach(d -> bySize.computeIfAbsent(d.size(), n -> new ArrayList<>()).add(d));
        List<List<int[]>> best = new ArrayList<>();
        for (List<List<int[]>> some : bySize.values()) {
            if (some.size() >= best.size()) {
                best = some;
            }
        }
        return best;
    }

    private static TreeMap<Integer, Integer> votes(List<List<int[]>> partners, int place) {
        TreeMap<Integer, Integer> votes = new TreeMap<>();
        for (List<int[]> d : partners) {
            if (d.get(place)[1] == 1) {
                votes.merge(d.get(place)[0], 1, Integer::sum);
            }
        }
        return votes;
    }

    int joined(int what) {
        if (what < 0 || what > 3) {
            return BAD;
        }
        if (draws.isEmpty()) {
            return STATE;
        }
        List<List<int[]>> p = partners();
        int places = p.get(0).size();
        int open = 0;
        int disputed = 0;
        for (int place = 0; place < places; place++) {
            int said = votes(p, place).size();
            open += said == 0 ? 1 : 0;
            disputed += said > 1 ? 1 << place : 0;
        }
        return new int[] {places, p.size(), open, disputed}[what];
    }

    int join(int place) {
        if (place < 0) {
            return BAD;
        }
        if (draws.isEmpty()) {
            return STATE;
        }
        List<List<int[]>> p = partners();
        if (place >= p.get(0).size()) {
            return BAD;
        }
        TreeMap<Integer, Integer> votes = votes(p, place);
        int most = votes.values().stream().mapToInt(v -> v).max().orElse(0);
        return votes.keySet().stream().filter(v -> votes.get(v) == most).findFirst().orElse(NONE);
    }

    int drop() {
        int n = draws.size();
        draws.clear();
        return n;
    }

    // ---- sheets: true rows, so that the machine itself finds the faults

    int sheet(int k, int lane, int n) {
        if (k < 0 || k > 3 || lane < 0 || lane > 2 || n > 64) {
            return BAD;
        }
        try {
            sheets[k] = lane == 0 ? new byte[n] : lane == 1 ? new short[n] : new int[n];
            return 1;
        } catch (NegativeArraySizeException e) {
            return -14;
        }
    }

    int lay(int k, int i, int v) {
        if (k < 0 || k > 3) {
            return BAD;
        }
        try {
            if (sheets[k] instanceof byte[] b) {
                b[i] = (byte) v;
            } else if (sheets[k] instanceof short[] s) {
                s[i] = (short) v;
            } else {
                ((int[]) sheets[k])[i] = v;
            }
            return 1;
        } catch (NullPointerException e) {
            return -11;
        } catch (ArrayIndexOutOfBoundsException e) {
            return -12;
        }
    }

    int load(int k, int lane, int f, int n) {
        if (k < 0 || k > 3 || lane < 0 || lane > 2 || n < 0 || n > 64) {
            return BAD;
        }
        List<Integer> coming = new ArrayList<>();
        int refused = 0;
        try {
            for (int i = 0; i < n; i++) {
                int g = switch (lane) {
                    case 0 -> ((byte[]) sheets[k])[f + i];
                    case 1 -> ((short[]) sheets[k])[f + i];
                    default -> ((int[]) sheets[k])[f + i];
                };
                if (g < 1 || g > 9999) {
                    return -20 - i;
                }
                coming.add(g);
                if (gaps.size() + coming.size() > 320) {
                    return FULL;
                }
            }
        } catch (NullPointerException e) {
            refused = 1;
        } catch (ArrayIndexOutOfBoundsException e) {
            refused = 2;
        } catch (ClassCastException e) {
            refused = 3;
        }
        gaps.addAll(coming);
        torn = refused;
        return coming.size();
    }

    int wipe() {
        int n = gaps.size();
        gaps.clear();
        return n;
    }

    int torn() {
        return torn;
    }

    int count(int what) {
        return switch (what) {
            case 0 -> row.size();
            case 1 -> gaps.size();
            case 2 -> gaps.stream().mapToInt(g -> g).sum();
            case 3 -> draws.size();
            case 4 -> tape.length();
            case 5 -> sheets[0] == null ? NONE : java.lang.reflect.Array.getLength(sheets[0]);
            default -> BAD;
        };
    }

    @Override
    public String toString() {
        return "tape \"" + tape + "\" rules " + told + " row " + row + " gaps " + gaps + " sheets "
                + Arrays.toString(sheets);
    }
}
