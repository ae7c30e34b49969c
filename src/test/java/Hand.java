/** What the tests do again and again with a stripe: telling it a text, giving it gaps. */
final class Hand {
    private Hand() {
    }

    /** Feeds a text of at most 160 bytes, padded with blanks and cut to its length. */
    static void feed(SwipedStripe x, String t) {
        x.end(0);
        for (int i = 0; i < t.length(); i += 8) {
            long v = 0;
            for (int k = 0; k < 8; k++) {
                v = v << 8 | (i + k < t.length() ? t.charAt(i + k) & 255 : ' ');
            }
            x.feed(v);
        }
        x.end(t.length());
    }

    static int tell(SwipedStripe x, String t) {
        feed(x, t);
        return x.text();
    }

    /** GAPS as given, in place of those there were; SHEET 3 is used for it. */
    static void gaps(SwipedStripe x, int... gaps) {
        x.wipe();
        for (int from = 0; from < gaps.length; from += 64) {
            int n = Math.min(64, gaps.length - from);
            x.sheet(3, 2, n);
            for (int i = 0; i < n; i++) {
                x.lay(3, i, gaps[from + i]);
            }
            x.load(3, 2, 0, n);
        }
    }

    /** GAPS of bits as an even hand would draw them: 100 for a 0, 50 and 50 for a 1. Blanks in bits are passed over. */
    static void bits(SwipedStripe x, String bits) {
        String some = bits.replace(" ", "");
        int[] gaps = new int[some.length() + some.replace("0", "").length()];
        int n = 0;
        for (char c : some.toCharArray()) {
            if (c == '0') {
                gaps[n++] = 100;
            } else {
                gaps[n++] = 50;
                gaps[n++] = 50;
            }
        }
        gaps(x, gaps);
    }

    /** As many GAPS as told, 101 to 108 and so again, in few calls; SHEET 3 is used for it. */
    static void many(SwipedStripe x, int n) {
        x.wipe();
        x.sheet(3, 2, 8);
        for (int i = 0; i < 8; i++) {
            x.lay(3, i, 101 + i);
        }
        for (int from = 0; from < n; from += 8) {
            x.load(3, 2, 0, Math.min(8, n - from));
        }
    }
}
