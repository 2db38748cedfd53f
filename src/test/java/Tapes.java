/** Types texts, as the tests write rules as texts. */
final class Tapes {
    private Tapes() {
    }

    static int type(TurnPort x, String text) {
        int has = 0;
        for (int from = 0; from < text.length(); from += 8) {
            int n = Math.min(8, text.length() - from);
            long w = 0;
            for (int k = 0; k < n; k++) {
                w = w << 8 | text.charAt(from + k);
            }
            has = x.type(w, n);
        }
        return has;
    }

    static int rule(TurnPort x, int which, String text) {
        type(x, text);
        return x.rule(which);
    }
}
