/** A stripe of symbols that clocks itself, and the ways to read it when a hand has drawn it past a head. */
public final class SwipedStripe {
    public static final int BAD = -1, STATE = -2, FULL = -3, NONE = -4;

    private static final int MOST_BYTES = 160, MOST_ROW = 16, MOST_GAPS = 320, LONGEST_GAP = 9999;
    private static final int MOST_VALUES = 32, MOST_DRAWS = 6, MOST_SHEETS = 4, MOST_CELLS = 64;
    private static final int LEAST_UNIT = 4, MOST_UNIT = 999, MOST_CHANGE = 50, MOST_SWAY = 99;

    /** The numbers by which rule() asks; the text tells each of them once at most. */
    private static final int BITS = 0, ODD = 1, BEGIN = 2, CLOSE = 3, LEAD = 4, TAIL = 5, LIMIT = 6, CHECKED = 7,
            CLOCK = 8, RULES = 9;
    private static final int[] AT_FIRST = {4, 1, 11, 15, 5, 5, 40, 1, 1};
    private static final int[] LEAST_TOLD = {3, 0, 0, 0, 1, 1, 5, 0, 0};
    private static final int[] MOST_TOLD = {6, 1, 63, 63, 20, 20, 60, 1, 2};

    /** The rule that each NAME tells, in the order of wordAt(), and what it says of it by itself. */
    private static final int WORDS = 11, BY_NUMBER = -1;
    private static final int[] RULE_OF_WORD = {BITS, ODD, ODD, BEGIN, CLOSE, LEAD, TAIL, LIMIT, CHECKED, CHECKED,
        CLOCK};
    private static final int[] SAID_BY_WORD = {BY_NUMBER, 1, 0, BY_NUMBER, BY_NUMBER, BY_NUMBER, BY_NUMBER, BY_NUMBER,
        1, 0, BY_NUMBER};

    private static final int NO_TOKEN = 1, MISPLACED = 2, OUT_OF_BOUNDS = 3, TOLD_ALREADY = 4, UNSOUND = 5;
    private static final int NO_NEXT = 1, TOO_FAR = 2, NO_BEGIN = 3, NO_CLOSE = 4, WRONG_PARITY = 5, WRONG_CHECKS = 6;
    private static final int NULL = 1, INDEX = 2, CAST = 3, SIZE = 4;
    private static final int STANDING_CLOCK = 0, LAST_CLOCK = 1, SLOW_CLOCK = 2;
    private static final int NO_LIMIT = -1;

    private final Rules rules = new Rules();
    private final Row tape = new Row(MOST_BYTES);
    private final TextReader textReader = new TextReader();
    private final Row row = new Row(MOST_ROW);
    private final Stripe written = new Stripe();
    private final Row gaps = new Row(MOST_GAPS);
    private final Reading reading = new Reading();
    private final Finding finding = new Finding();
    private final Smoothest smoothest = new Smoothest();
    private final Draws draws = new Draws();
    private final Sheet[] sheets = new Sheet[MOST_SHEETS];
    private int textFault = 0;
    private int loadFault = 0;

    public SwipedStripe() {
        for (int k = 0; k < sheets.length; k++) {
            sheets[k] = new Sheet();
        }
    }

    // ---- the text

    public int feed(long v) {
        if (tape.size() + 8 > MOST_BYTES) {
            return FULL;
        }
        for (int shift = 56; shift >= 0; shift -= 8) {
            tape.push((int) (v >>> shift) & 255);
        }
        return tape.size();
    }

    public int end(int n) {
        int had = tape.size();
        if (n < 0 || n > had) {
            return BAD;
        }
        tape.cut(n);
        return had;
    }

    public int text() {
        textReader.parse(tape);
        tape.cut(0);
        textFault = textReader.faultFound();
        if (textFault != 0) {
            return -10 - textReader.faultPlace();
        }
        rules.become(textReader.told());
        row.cut(0);
        gaps.cut(0);
        draws.forget();
        return textReader.lines();
    }

    public int fault() {
        return textFault;
    }

    public int rule(int what) {
        return what < 0 || what >= RULES ? BAD : rules.of(what);
    }

    // ---- the row, the stripe

    public int add(int value) {
        if (!rules.isValue(value) || value == rules.of(BEGIN) || value == rules.of(CLOSE)) {
            return BAD;
        }
        return row.push(value) ? row.size() : FULL;
    }

    public int clear() {
        return emptied(row);
    }

    public int value(int i) {
        return row.has(i) ? row.at(i) : BAD;
    }

    public int stripe(int what) {
        if (what < 0 || what > 2) {
            return BAD;
        }
        written.build(rules, row);
        if (what == 0) {
            return written.bits().size();
        }
        return what == 1 ? written.bits().sum() : written.checks();
    }

    public int bit(int i) {
        written.build(rules, row);
        return written.bits().has(i) ? written.bits().at(i) : BAD;
    }

    // ---- gaps

    public int write(int unit, int change, int j, int seed) {
        if (unit < LEAST_UNIT || unit > MOST_UNIT || change < -MOST_CHANGE || change > MOST_CHANGE) {
            return BAD;
        }
        if (j < 0 || j > MOST_SWAY) {
            return BAD;
        }
        written.build(rules, row);
        // every 1 takes one GAP more than a 0 does
        if (written.bits().size() + written.bits().sum() > MOST_GAPS) {
            return FULL;
        }
        written.layOut(gaps, unit, change, j, seed);
        return gaps.size();
    }

    public int gap(int i) {
        return gaps.has(i) ? gaps.at(i) : BAD;
    }

    public int alter(int i, int v) {
        if (!gaps.has(i) || !isGap(v)) {
            return BAD;
        }
        int was = gaps.at(i);
        gaps.put(i, v);
        return was;
    }

    public int miss(int i) {
        if (!gaps.has(i) || !gaps.has(i + 1)) {
            return BAD;
        }
        gaps.put(i, Math.min(gaps.at(i) + gaps.at(i + 1), LONGEST_GAP));
        gaps.takeOut(i + 1);
        return gaps.size();
    }

    public int split(int i, int v) {
        if (!gaps.has(i) || v < 1 || v >= gaps.at(i)) {
            return BAD;
        }
        if (gaps.size() >= MOST_GAPS) {
            return FULL;
        }
        gaps.putIn(i, v);
        gaps.put(i + 1, gaps.at(i + 1) - v);
        return gaps.size();
    }

    public int turn() {
        gaps.reverse();
        return gaps.size();
    }

    // ---- reading

    public int read(int clock, int what) {
        if (!isClock(clock) || what < 0 || what > 2) {
            return BAD;
        }
        if (gaps.isEmpty()) {
            return STATE;
        }
        reading.hear(gaps, clock, rules.of(LIMIT));
        if (what == 0) {
            return reading.bits().size();
        }
        return what == 1 ? reading.fails() : reading.failsAt();
    }

    public int heard(int i) {
        hearByText();
        return reading.bits().has(i) ? reading.bits().at(i) : BAD;
    }

    public int found(int what) {
        if (what < 0 || what > 4) {
            return BAD;
        }
        if (gaps.isEmpty()) {
            return STATE;
        }
        look();
        switch (what) {
            case 0:
                return finding.verdict();
            case 1:
                return finding.beginAt();
            case 2:
                return finding.isWhole() ? finding.values() : NONE;
            case 3:
                return finding.isWhole() ? finding.wrongSymbols() : NONE;
            default:
                return finding.isWhole() ? finding.wrongChecks() : NONE;
        }
    }

    public int symbol(int i) {
        if (i < 0) {
            return BAD;
        }
        if (!findsValues()) {
            return STATE;
        }
        return i < finding.values() ? finding.valueAt(i) : BAD;
    }

    public int mended(int what) {
        if (what < 0 || what > 2) {
            return BAD;
        }
        if (!findsValues() || finding.verdict() == 0) {
            return STATE;
        }
        if (!finding.canBeMended()) {
            return NONE;
        }
        if (what == 0) {
            return finding.mendedSymbol();
        }
        return what == 1 ? finding.mendedValue() : finding.mendedBit();
    }

    public int way() {
        if (gaps.isEmpty()) {
            return STATE;
        }
        look();
        if (finding.verdict() == 0) {
            return 0;
        }
        gaps.reverse();
        look();
        gaps.reverse();
        return finding.verdict() == 0 ? 1 : NONE;
    }

    public int smooth(int what) {
        if (what < 0 || what > 2) {
            return BAD;
        }
        if (gaps.isEmpty()) {
            return STATE;
        }
        smoothest.part(gaps);
        if (what == 0) {
            return smoothest.roughness();
        }
        return what == 1 ? smoothest.bits().size() : smoothest.bits().sum();
    }

    public int smoothBit(int i) {
        smoothest.part(gaps);
        return smoothest.bits().has(i) ? smoothest.bits().at(i) : BAD;
    }

    public int margin(int clock, int what) {
        if (!isClock(clock) || what < 0 || what > 1) {
            return BAD;
        }
        if (gaps.isEmpty()) {
            return STATE;
        }
        reading.hear(gaps, clock, rules.of(LIMIT));
        if (reading.bits().size() < 2) {
            return NONE;
        }
        reading.weighMargin();
        return what == 0 ? reading.marginAbove() : reading.marginBelow();
    }

    public int sway() {
        if (gaps.isEmpty()) {
            return STATE;
        }
        reading.hear(gaps, STANDING_CLOCK, NO_LIMIT);
        return reading.fails() == 0 ? reading.harmlessSway() : STATE;
    }

    // ---- draws

    public int keep() {
        if (!findsValues()) {
            return STATE;
        }
        if (draws.size() >= MOST_DRAWS) {
            return FULL;
        }
        draws.take(finding);
        return draws.size() - 1;
    }

    public int joined(int what) {
        if (what < 0 || what > 3) {
            return BAD;
        }
        if (draws.size() == 0) {
            return STATE;
        }
        int places = draws.places();
        switch (what) {
            case 0:
                return places;
            case 1:
                return draws.withPlaces(places);
            case 2:
                return draws.openPlaces(places);
            default:
                return draws.disputedPlaces(places);
        }
    }

    public int join(int place) {
        if (place < 0) {
            return BAD;
        }
        if (draws.size() == 0) {
            return STATE;
        }
        int places = draws.places();
        return place < places ? draws.favourite(places, place) : BAD;
    }

    public int drop() {
        int had = draws.size();
        draws.forget();
        return had;
    }

    // ---- sheets

    public int sheet(int k, int lane, int n) {
        if (!isSheet(k) || !isLane(lane) || n > MOST_CELLS) {
            return BAD;
        }
        if (n < 0) {
            return -10 - SIZE;
        }
        sheets[k].renew(lane, n);
        return 1;
    }

    public int lay(int k, int i, int v) {
        if (!isSheet(k)) {
            return BAD;
        }
        int refused = sheets[k].faultAt(i);
        if (refused != 0) {
            return -10 - refused;
        }
        sheets[k].set(i, v);
        return 1;
    }

    public int load(int k, int lane, int f, int n) {
        if (!isSheet(k) || !isLane(lane) || n < 0 || n > MOST_CELLS) {
            return BAD;
        }
        Sheet source = sheets[k];
        int refused = 0;
        int came = 0;
        for (int i = 0; i < n && refused == 0; i++) {
            refused = source.faultAs(lane, f + i);
            if (refused == 0) {
                if (!isGap(source.at(f + i))) {
                    return -20 - i;
                }
                if (gaps.size() + i >= MOST_GAPS) {
                    return FULL;
                }
                came++;
            }
        }
        // none may come before all of them have been judged
        for (int i = 0; i < came; i++) {
            gaps.push(source.at(f + i));
        }
        loadFault = refused;
        return came;
    }

    public int wipe() {
        return emptied(gaps);
    }

    public int torn() {
        return loadFault;
    }

    public int count(int what) {
        switch (what) {
            case 0:
                return row.size();
            case 1:
                return gaps.size();
            case 2:
                return gaps.sum();
            case 3:
                return draws.size();
            case 4:
                return tape.size();
            case 5:
                return sheets[0].isNothing() ? NONE : sheets[0].size();
            default:
                return BAD;
        }
    }

    private void hearByText() {
        reading.hear(gaps, rules.of(CLOCK), rules.of(LIMIT));
    }

    private void look() {
        hearByText();
        finding.search(reading, rules);
    }

    private boolean findsValues() {
        if (gaps.isEmpty()) {
            return false;
        }
        look();
        return finding.isWhole();
    }

    private static int emptied(Row some) {
        int had = some.size();
        some.cut(0);
        return had;
    }

    private static boolean isGap(int v) {
        return v >= 1 && v <= LONGEST_GAP;
    }

    private static boolean isClock(int clock) {
        return clock >= STANDING_CLOCK && clock <= SLOW_CLOCK;
    }

    private static boolean isLane(int lane) {
        return lane >= Sheet.BYTES && lane <= Sheet.INTS;
    }

    private static boolean isSheet(int k) {
        return k >= 0 && k < MOST_SHEETS;
    }

    private static int entry(int[] table, int i) {
        return i >= 0 && i < table.length ? table[i] : 0;
    }

    /** A bounded row of numbers. It looks at every index itself, so that no caller can make the machine refuse one. */
    private static final class Row {
        private final int[] cells;
        private int size = 0;

        Row(int most) {
            cells = new int[Math.max(most, 0)];
        }

        int size() {
            return size;
        }

        boolean isEmpty() {
            return size == 0;
        }

        boolean has(int i) {
            return i >= 0 && i < size;
        }

        int at(int i) {
            return i >= 0 && i < size ? cells[i] : 0;
        }

        void put(int i, int v) {
            if (i >= 0 && i < size) {
                cells[i] = v;
            }
        }

        boolean push(int v) {
            if (size >= cells.length) {
                return false;
            }
            cells[size] = v;
            size++;
            return true;
        }

        void putIn(int i, int v) {
            if (!has(i) || !push(0)) {
                return;
            }
            for (int k = size - 1; k > i; k--) {
                cells[k] = cells[k - 1];
            }
            cells[i] = v;
        }

        void takeOut(int i) {
            if (!has(i)) {
                return;
            }
            for (int k = i; k < size - 1; k++) {
                cells[k] = cells[k + 1];
            }
            size--;
        }

        void cut(int n) {
            if (n >= 0 && n < size) {
                size = n;
            }
        }

        void zeros(int n) {
            size = Math.max(0, Math.min(n, cells.length));
            for (int k = 0; k < size; k++) {
                cells[k] = 0;
            }
        }

        void become(Row other) {
            size = 0;
            for (int k = 0; k < other.size() && size < cells.length; k++) {
                push(other.at(k));
            }
        }

        void reverse() {
            for (int k = 0; k < size / 2; k++) {
                int other = size - 1 - k;
                int kept = cells[k];
                cells[k] = cells[other];
                cells[other] = kept;
            }
        }

        int sum() {
            int sum = 0;
            for (int k = 0; k < size; k++) {
                sum += cells[k];
            }
            return sum;
        }
    }

    /** What the text tells, each rule by the number that rule() asks for. */
    private static final class Rules {
        private final int[] held = new int[RULES];

        Rules() {
            startAgain();
        }

        void startAgain() {
            for (int what = 0; what < held.length; what++) {
                held[what] = entry(AT_FIRST, what);
            }
        }

        int of(int what) {
            return entry(held, what);
        }

        void set(int what, int v) {
            if (what >= 0 && what < held.length) {
                held[what] = v;
            }
        }

        void become(Rules other) {
            for (int what = 0; what < held.length; what++) {
                held[what] = other.of(what);
            }
        }

        boolean isChecked() {
            return of(CHECKED) == 1;
        }

        boolean isValue(int v) {
            return v >= 0 && v < (1 << of(BITS));
        }

        boolean isSound() {
            return isValue(of(BEGIN)) && isValue(of(CLOSE)) && of(BEGIN) != of(CLOSE);
        }

        /** A symbol as one number: the value, with the parity as one bit more above it. */
        int coded(int v) {
            int parity = (Integer.bitCount(v) + of(ODD)) & 1;
            return v | (parity << of(BITS));
        }
    }

    /** Takes a copy of the tape token by token, and stops at the first fault. */
    private static final class TextReader {
        private static final int LAST = 0, NAME = 1, NUMBER = 2, SEMICOLON = 3, FAULTY = 4;

        private final Row tape = new Row(MOST_BYTES);
        private final Rules told = new Rules();
        private int toldOnce;
        private int lines;
        private int faultFound;
        private int faultPlace;
        private int kind;
        private int start;
        private int next;
        private int meaning;

        Rules told() {
            return told;
        }

        int lines() {
            return lines;
        }

        int faultFound() {
            return faultFound;
        }

        int faultPlace() {
            return faultPlace;
        }

        void parse(Row from) {
            tape.become(from);
            told.startAgain();
            toldOnce = 0;
            lines = 0;
            faultFound = 0;
            faultPlace = 0;
            next = 0;
            takeToken();
            // a line has a byte at least
            for (int n = 0; n <= tape.size() && kind != LAST && faultFound == 0; n++) {
                takeLine();
                takeToken();
            }
            if (faultFound == 0 && !told.isSound()) {
                refuse(UNSOUND, tape.size());
            }
        }

        private void takeLine() {
            if (!standsHere(NAME)) {
                return;
            }
            int what = entry(RULE_OF_WORD, meaning);
            int said = entry(SAID_BY_WORD, meaning);
            if ((toldOnce >> what & 1) == 1) {
                refuse(TOLD_ALREADY, start);
                return;
            }
            toldOnce |= 1 << what;
            if (said == BY_NUMBER) {
                takeToken();
                if (!standsHere(NUMBER)) {
                    return;
                }
                if (meaning < entry(LEAST_TOLD, what) || meaning > entry(MOST_TOLD, what)) {
                    refuse(OUT_OF_BOUNDS, start);
                    return;
                }
                said = meaning;
            }
            told.set(what, said);
            takeToken();
            if (standsHere(SEMICOLON)) {
                lines++;
            }
        }

        private boolean standsHere(int wanted) {
            if (kind != wanted) {
                refuse(MISPLACED, start);
            }
            return kind == wanted;
        }

        /** The first fault is the one that counts: what follows it is met no more. */
        private void refuse(int what, int place) {
            if (faultFound == 0) {
                faultFound = what;
                faultPlace = place;
            }
        }

        private void takeToken() {
            if (faultFound != 0) {
                return;
            }
            while (next < tape.size() && tape.at(next) == ' ') {
                next++;
            }
            start = next;
            if (start >= tape.size()) {
                kind = LAST;
            } else if (tape.at(start) == ';') {
                kind = SEMICOLON;
                next++;
            } else if (isBetween(start, 'a', 'z')) {
                passBetween('a', 'z');
                meaning = wordFrom(start, next - start);
                kind = meaning == NONE ? FAULTY : NAME;
            } else if (isBetween(start, '0', '9')) {
                passBetween('0', '9');
                meaning = numberFrom(start, next - start);
                kind = meaning == NONE ? FAULTY : NUMBER;
            } else {
                kind = FAULTY;
            }
            if (kind == FAULTY) {
                refuse(NO_TOKEN, start);
            }
        }

        private boolean isBetween(int place, char least, char most) {
            return tape.has(place) && tape.at(place) >= least && tape.at(place) <= most;
        }

        private void passBetween(char least, char most) {
            while (next < tape.size() && isBetween(next, least, most)) {
                next++;
            }
        }

        private int numberFrom(int place, int figures) {
            if (figures > 2) {
                return NONE;
            }
            int number = 0;
            for (int i = 0; i < figures; i++) {
                number = 10 * number + tape.at(place + i) - '0';
            }
            return number;
        }

        private int wordFrom(int place, int letters) {
            for (int k = 0; k < WORDS; k++) {
                if (isWord(wordAt(k), place, letters)) {
                    return k;
                }
            }
            return NONE;
        }

        private boolean isWord(String word, int place, int letters) {
            if (word.length() != letters) {
                return false;
            }
            for (int i = 0; i < word.length(); i++) {
                if (word.charAt(i) != tape.at(place + i)) {
                    return false;
                }
            }
            return true;
        }

        private static String wordAt(int k) {
            switch (k) {
                case 0:
                    return "bits";
                case 1:
                    return "odd";
                case 2:
                    return "even";
                case 3:
                    return "begin";
                case 4:
                    return "close";
                case 5:
                    return "lead";
                case 6:
                    return "tail";
                case 7:
                    return "limit";
                case 8:
                    return "checked";
                case 9:
                    return "plain";
                default:
                    return "clock";
            }
        }
    }

    /** The bits that the row makes by the rules, and their way into gaps. */
    private static final class Stripe {
        /** LEAD and TAIL of 20, and BEGIN, 16 values, CLOSE and checks of 7 bits each. */
        private static final int MOST_BITS = 173;

        private final Row bits = new Row(MOST_BITS);
        private int checks = NONE;
        private int seed;

        Row bits() {
            return bits;
        }

        int checks() {
            return checks;
        }

        void build(Rules rules, Row row) {
            bits.cut(0);
            pushZeros(rules.of(LEAD));
            int all = rules.of(BEGIN) ^ rules.of(CLOSE);
            pushSymbol(rules, rules.of(BEGIN));
            for (int i = 0; i < row.size(); i++) {
                pushSymbol(rules, row.at(i));
                all ^= row.at(i);
            }
            pushSymbol(rules, rules.of(CLOSE));
            checks = NONE;
            if (rules.isChecked()) {
                checks = all;
                pushSymbol(rules, checks);
            }
            pushZeros(rules.of(TAIL));
        }

        void layOut(Row gaps, int unit, int change, int j, int firstSeed) {
            gaps.cut(0);
            seed = firstSeed;
            for (int i = 0; i < bits.size(); i++) {
                int length = Math.max(LEAST_UNIT, Math.min(MOST_UNIT, unit + i * change));
                if (bits.at(i) == 0) {
                    gaps.push(swayed(length, j));
                } else {
                    gaps.push(swayed(length / 2, j));
                    gaps.push(swayed(length - length / 2, j));
                }
            }
        }

        private int swayed(int length, int j) {
            if (j <= 0) {
                return length;
            }
            seed = seed * 1103515245 + 12345;
            int drawn = (seed >>> 16 & 0x7fff) % (2 * j + 1);
            return Math.max(1, length + drawn - j);
        }

        private void pushZeros(int n) {
            for (int i = 0; i < n; i++) {
                bits.push(0);
            }
        }

        private void pushSymbol(Rules rules, int v) {
            int coded = rules.coded(v);
            for (int i = 0; i <= rules.of(BITS); i++) {
                bits.push(coded >> i & 1);
            }
        }
    }

    /** Gaps heard as bits by a clock. What decided each bit is kept beside it, for the margin and the sway. */
    private static final class Reading {
        private final Row bits = new Row(MOST_GAPS);
        private final Row firstGaps = new Row(MOST_GAPS);
        private final Row clocks = new Row(MOST_GAPS);
        private int fails = 0;
        private int failsAt = NONE;
        private int marginAbove;
        private int marginBelow;

        Row bits() {
            return bits;
        }

        int fails() {
            return fails;
        }

        int failsAt() {
            return failsAt;
        }

        int marginAbove() {
            return marginAbove;
        }

        int marginBelow() {
            return marginBelow;
        }

        void hear(Row gaps, int clock, int limit) {
            startAgain();
            if (gaps.isEmpty()) {
                return;
            }
            int t = gaps.at(0);
            note(0, t, t);
            for (int i = 1; i < gaps.size() && fails == 0; i++) {
                int g = gaps.at(i);
                int bit = 4 * g > 3 * t ? 0 : 1;
                int length = bit == 0 ? g : g + gaps.at(i + 1);
                if (bit == 1 && !gaps.has(i + 1)) {
                    fail(NO_NEXT, i);
                } else if (limit != NO_LIMIT && 100 * Math.abs(length - t) > limit * t) {
                    fail(TOO_FAR, i);
                } else {
                    note(bit, g, t);
                    t = followed(clock, t, length);
                    i += bit;
                }
            }
        }

        private void startAgain() {
            bits.cut(0);
            firstGaps.cut(0);
            clocks.cut(0);
            fails = 0;
            failsAt = NONE;
        }

        private void note(int bit, int g, int t) {
            bits.push(bit);
            firstGaps.push(g);
            clocks.push(t);
        }

        private void fail(int how, int i) {
            fails = how;
            failsAt = i;
        }

        private static int followed(int clock, int t, int length) {
            if (clock == LAST_CLOCK) {
                return length;
            }
            return clock == SLOW_CLOCK ? (3 * t + length) / 4 : t;
        }

        /** Asked of two bits at least: the first one was never decided. */
        void weighMargin() {
            long above = 0;
            long below = 0;
            for (int k = 1; k < bits.size(); k++) {
                long far = Math.abs(4L * firstGaps.at(k) - 3L * clocks.at(k));
                long whole = 4L * clocks.at(k);
                // cross-multiplied, as quotients would be rounded
                if (below == 0 || far * below < above * whole) {
                    above = far;
                    below = whole;
                }
            }
            long shared = Math.max(1, commonDivisor(above, below));
            marginAbove = (int) (above / shared);
            marginBelow = (int) (below / shared);
        }

        private static long commonDivisor(long a, long b) {
            // each two rounds halve the numbers at least, so 128 are enough for any long
            for (int round = 0; round < 128 && b > 0; round++) {
                long rest = a % b;
                a = b;
                b = rest;
            }
            return a;
        }

        int harmlessSway() {
            int j = MOST_SWAY;
            for (int k = 1; k < bits.size(); k++) {
                while (j > 0 && !withstands(k, j)) {
                    j--;
                }
            }
            return j;
        }

        private boolean withstands(int k, int j) {
            int g = firstGaps.at(k);
            int t = clocks.at(k);
            return bits.at(k) == 0 ? 4 * (g - j) > 3 * (t + j) : 4 * (g + j) <= 3 * (t - j);
        }
    }

    /** Symbols sought in the bits of a reading, with what is wrong in them. */
    private static final class Finding {
        /** Of BEGIN, the values, CLOSE and the checks: what each one says, and 1 where it has its parity. */
        private final Row said = new Row(MOST_VALUES + 3);
        private final Row sound = new Row(MOST_VALUES + 3);
        private int verdict;
        private int beginAt = NONE;
        private int values;
        private int valueBits;
        private int oddOnes;
        private boolean checked;
        private int wrongChecks;

        int verdict() {
            return verdict;
        }

        int beginAt() {
            return beginAt;
        }

        boolean isWhole() {
            return verdict == 0 || verdict == WRONG_PARITY || verdict == WRONG_CHECKS;
        }

        int values() {
            return values;
        }

        int valueAt(int i) {
            return said.at(i + 1);
        }

        boolean valueIsSound(int i) {
            return sound.at(i + 1) == 1;
        }

        int wrongSymbols() {
            return sound.size() - sound.sum();
        }

        int wrongChecks() {
            return wrongChecks;
        }

        void search(Reading reading, Rules rules) {
            said.cut(0);
            sound.cut(0);
            values = 0;
            wrongChecks = 0;
            valueBits = rules.of(BITS);
            oddOnes = rules.of(ODD);
            checked = rules.isChecked();
            beginAt = placeOf(rules.coded(rules.of(BEGIN)), reading.bits());
            if (beginAt != NONE && takeSymbols(rules.coded(rules.of(CLOSE)), reading.bits())) {
                weighChecks();
                verdict = wrongSymbols() > 0 ? WRONG_PARITY : wrongChecks != 0 ? WRONG_CHECKS : 0;
            } else if (reading.fails() != 0) {
                verdict = reading.fails();
            } else {
                verdict = beginAt == NONE ? NO_BEGIN : NO_CLOSE;
            }
        }

        private int placeOf(int begin, Row bits) {
            for (int i = 0; i < bits.size(); i++) {
                if (codedFrom(bits, i) == begin) {
                    return i;
                }
            }
            return NONE;
        }

        /** False, if CLOSE or the checks are not there. */
        private boolean takeSymbols(int close, Row bits) {
            int step = valueBits + 1;
            take(codedFrom(bits, beginAt));
            for (int n = 0; n <= MOST_VALUES; n++) {
                int place = beginAt + (n + 1) * step;
                int coded = codedFrom(bits, place);
                if (!take(coded)) {
                    return false;
                }
                if (coded == close) {
                    values = n;
                    return !checked || take(codedFrom(bits, place + step));
                }
            }
            return false;
        }

        private boolean take(int coded) {
            if (coded == NONE) {
                return false;
            }
            said.push(coded & ((1 << valueBits) - 1));
            return sound.push((Integer.bitCount(coded) & 1) == oddOnes ? 1 : 0);
        }

        private int codedFrom(Row bits, int place) {
            if (place + valueBits >= bits.size()) {
                return NONE;
            }
            int coded = 0;
            for (int i = 0; i <= valueBits; i++) {
                coded |= bits.at(place + i) << i;
            }
            return coded;
        }

        /** The checks as heard and as due cancel out, but for the bits in which they are unlike. */
        private void weighChecks() {
            int all = 0;
            for (int k = 0; k < said.size(); k++) {
                all ^= said.at(k);
            }
            wrongChecks = checked ? all : 0;
        }

        boolean canBeMended() {
            return checked && wrongSymbols() == 1 && Integer.bitCount(wrongChecks) <= 1;
        }

        int mendedSymbol() {
            for (int k = 0; k < sound.size(); k++) {
                if (sound.at(k) == 0) {
                    return k;
                }
            }
            return NONE;
        }

        int mendedValue() {
            return said.at(mendedSymbol()) ^ wrongChecks;
        }

        int mendedBit() {
            // just one bit stands in it: as many are below it as its number says
            return wrongChecks == 0 ? NONE : Integer.bitCount(wrongChecks - 1);
        }
    }

    /** The way to part all gaps into bits that is least rough, found from the last gap to the first. */
    private static final class Smoothest {
        private static final int NO_WAY = 1_000_000_000, NOTHING_BEFORE = -1;

        private final Row bits = new Row(MOST_GAPS);
        /** The least roughness from a gap on, if the bit that ends ahead of it is a 0, or a 1. */
        private final Row behindZero = new Row(MOST_GAPS + 1);
        private final Row behindOne = new Row(MOST_GAPS + 1);
        private int roughness;

        Row bits() {
            return bits;
        }

        int roughness() {
            return roughness;
        }

        void part(Row gaps) {
            behindZero.zeros(gaps.size() + 1);
            behindOne.zeros(gaps.size() + 1);
            for (int i = gaps.size() - 1; i > 0; i--) {
                behindZero.put(i, least(gaps, i, gaps.at(i - 1)));
                behindOne.put(i, least(gaps, i, gaps.at(i - 1) + gaps.at(i - 2)));
            }
            roughness = gaps.isEmpty() ? 0 : least(gaps, 0, NOTHING_BEFORE);
            walk(gaps);
        }

        /** A 0 where both are as smooth: the least row of bits is wanted. */
        private void walk(Row gaps) {
            bits.cut(0);
            int before = NOTHING_BEFORE;
            for (int i = 0; i < gaps.size(); i++) {
                if (withZero(gaps, i, before) <= withOne(gaps, i, before)) {
                    bits.push(0);
                    before = gaps.at(i);
                } else {
                    bits.push(1);
                    before = gaps.at(i) + gaps.at(i + 1);
                    i++;
                }
            }
        }

        private int least(Row gaps, int i, int before) {
            return Math.min(withZero(gaps, i, before), withOne(gaps, i, before));
        }

        private int withZero(Row gaps, int i, int before) {
            return step(gaps.at(i), before) + behindZero.at(i + 1);
        }

        private int withOne(Row gaps, int i, int before) {
            if (!gaps.has(i + 1)) {
                return NO_WAY;
            }
            int first = gaps.at(i);
            int second = gaps.at(i + 1);
            return step(first + second, before) + Math.abs(first - second) + behindOne.at(i + 2);
        }

        private static int step(int length, int before) {
            return before == NOTHING_BEFORE ? 0 : Math.abs(length - before);
        }
    }

    /** One draw: its values, and a bit for each of them that had its parity. */
    private static final class Draw {
        private final Row values = new Row(MOST_VALUES);
        private int soundPlaces = 0;

        void take(Finding finding) {
            values.cut(0);
            soundPlaces = 0;
            for (int i = 0; i < finding.values(); i++) {
                values.push(finding.valueAt(i));
                if (finding.valueIsSound(i)) {
                    soundPlaces |= 1 << i;
                }
            }
        }

        int size() {
            return values.size();
        }

        boolean isSoundAt(int place) {
            return values.has(place) && (soundPlaces >>> place & 1) == 1;
        }

        int at(int place) {
            return values.at(place);
        }
    }

    /** The draws that are kept, joined by those that have the same number of places. */
    private static final class Draws {
        private static final int MOST_VALUE = 63;

        private final Draw[] kept = new Draw[MOST_DRAWS];
        private int size = 0;

        Draws() {
            for (int k = 0; k < kept.length; k++) {
                kept[k] = new Draw();
            }
        }

        int size() {
            return size;
        }

        void forget() {
            size = 0;
        }

        void take(Finding finding) {
            if (size < kept.length) {
                kept[size].take(finding);
                size++;
            }
        }

        int places() {
            int places = 0;
            int most = 0;
            for (int n = 0; n <= MOST_VALUES; n++) {
                int with = withPlaces(n);
                // of several numbers as many the greater one is wanted
                if (with > 0 && with >= most) {
                    most = with;
                    places = n;
                }
            }
            return places;
        }

        int withPlaces(int n) {
            int with = 0;
            for (int k = 0; k < size; k++) {
                if (kept[k].size() == n) {
                    with++;
                }
            }
            return with;
        }

        int openPlaces(int places) {
            int open = 0;
            for (int place = 0; place < places; place++) {
                if (favourite(places, place) == NONE) {
                    open++;
                }
            }
            return open;
        }

        int disputedPlaces(int places) {
            int disputed = 0;
            for (int place = 0; place < places; place++) {
                int favoured = favourite(places, place);
                if (favoured != NONE && votesFor(places, place, favoured) < voters(places, place)) {
                    disputed |= 1 << place;
                }
            }
            return disputed;
        }

        /** Values are tried from the least one on, so that of several as many the least stays. */
        int favourite(int places, int place) {
            int favoured = NONE;
            int most = 0;
            for (int v = 0; v <= MOST_VALUE; v++) {
                int votes = votesFor(places, place, v);
                if (votes > most) {
                    most = votes;
                    favoured = v;
                }
            }
            return favoured;
        }

        private int voters(int places, int place) {
            int n = 0;
            for (int k = 0; k < size; k++) {
                if (kept[k].size() == places && kept[k].isSoundAt(place)) {
                    n++;
                }
            }
            return n;
        }

        private int votesFor(int places, int place, int v) {
            int n = 0;
            for (int k = 0; k < size; k++) {
                if (kept[k].size() == places && kept[k].isSoundAt(place) && kept[k].at(place) == v) {
                    n++;
                }
            }
            return n;
        }
    }

    /** A row of cells of a lane, or nothing. It tells what the machine would find, as nothing may come to that here. */
    private static final class Sheet {
        private static final int NOTHING = -1, BYTES = 0, SHORTS = 1, INTS = 2;

        private final Row cells = new Row(MOST_CELLS);
        private int lane = NOTHING;

        boolean isNothing() {
            return lane == NOTHING;
        }

        int size() {
            return cells.size();
        }

        void renew(int asLane, int n) {
            lane = asLane;
            cells.zeros(n);
        }

        int faultAt(int i) {
            if (isNothing()) {
                return NULL;
            }
            return cells.has(i) ? 0 : INDEX;
        }

        /** Another lane is found as a cell is asked for, like every fault: who asks for none is refused nothing. */
        int faultAs(int asLane, int i) {
            return isNothing() || lane == asLane ? faultAt(i) : CAST;
        }

        int at(int i) {
            return cells.at(i);
        }

        void set(int i, int v) {
            if (lane == BYTES) {
                cells.put(i, (byte) v);
            } else {
                cells.put(i, lane == SHORTS ? (short) v : v);
            }
        }
    }
}
