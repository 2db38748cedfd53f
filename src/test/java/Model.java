import java.util.ArrayList;
import java.util.Arrays;
import java.util.Collections;
import java.util.List;

/**
 * The document once more, written another way and without care for speed: ticks one by one, rules
 * as lists of terms, orders by trying all, cuts by trying all, real arrays for sheets.
 */
final class Model {
    private static final int BAD = -1, NOT = -2, FULL = -3, NONE = -4, NULL = -11, CAST = -12, INDEX = -13, SIZE = -14;

    private static final class W {
        int number, stream, length, tick, kind, due, place, end, gate, house, state;
        int from = -1, leftAt = -1;

        long letter(char c) {
            return c == 'c' ? kind : c == 'l' ? length : c == 't' ? tick : c == 'd' ? due : c == 'n' ? place : end;
        }
    }

    private static final class Term {
        long number;
        char letter;
    }

    private final int[][] told = new int[8][];
    private final List<W> all = new ArrayList<>();
    private final List<W> turns = new ArrayList<>();
    private final List<W> marks = new ArrayList<>();
    private final Object[] sheets = new Object[4];
    private String tape = "";
    private final List<List<Term>> rules = new ArrayList<>();
    private int room = 24, drops = 0, now = 0, virtual = 0;

    Model() {
        for (int s = 0; s < 8; s++) {
            told[s] = new int[]{0, 1, 100, 0, 0, 0, 0};
        }
        for (int i = 0; i < 2; i++) {
            Term t = new Term();
            t.number = 1;
            t.letter = 't';
            rules.add(List.of(t));
        }
    }

    private static boolean within(int v, int least, int most) {
        return least <= v && v <= most;
    }

    int set(int stream, int what, int v) {
        if (!within(stream, 0, 7) || !within(what, 0, 6)) {
            return BAD;
        }
        String[] spans = {"0 9", "1 16", "0 999", "0 99", "0 3", "0 999", "0 16"};
        String[] span = spans[what].split(" ");
        if (!within(v, Integer.parseInt(span[0]), Integer.parseInt(span[1]))) {
            return BAD;
        }
        int was = told[stream][what];
        told[stream][what] = v;
        return was;
    }

    private static boolean good(int stream, int length) {
        return within(stream, 0, 7) && within(length, 1, 99);
    }

    int come(int stream, int length) {
        if (!good(stream, length)) {
            return BAD;
        }
        if (all.size() == 1000) {
            return FULL;
        }
        W w = new W();
        w.number = all.size();
        w.stream = stream;
        w.length = length;
        w.tick = now;
        w.kind = told[stream][0];
        w.due = now + told[stream][2];
        w.house = told[stream][4];
        W last = null;
        for (W o : all) {
            if (o.stream == stream) {
                last = o;
                w.place++;
            }
        }
        w.end = Math.max(last == null ? 0 : last.end, virtual) + 16 * length / told[stream][1];
        w.gate = last == null ? now : Math.max(now, last.gate + told[stream][3]);
        boolean beyond = waiting().size() + 1 > room;
        all.add(w);
        marks.add(w);
        if (beyond) {
            dropOne(w);
        }
        return w.number;
    }

    private List<W> waiting() {
        List<W> some = new ArrayList<>();
        for (W w : all) {
            if (w.state == 0) {
                some.add(w);
            }
        }
        return some;
    }

    private void dropOne(W coming) {
        W gone = coming;
        List<W> some = waiting();
        Collections.reverse(some);
        if (drops == 1) {
            for (W w : some) {
                if (rankBy(0, w) > rankBy(0, gone)) {
                    gone = w;
                }
            }
        } else if (drops == 2) {
            int[] many = new int[8];
            for (W w : some) {
                many[w.stream]++;
            }
            int stream = 0;
            for (int s = 7; s >= 0; s--) {
                stream = many[s] >= many[stream] ? s : stream;
            }
            for (W w : all) {
                gone = w.state == 0 && w.stream == stream ? w : gone;
            }
        }
        gone.state = 3;
        if (marks.contains(gone)) {
            marks.remove(gone);
            return;
        }
        for (int i = marks.size() - 1; i >= 0; i--) {
            if (marks.get(i).house == gone.house) {
                marks.remove(i);
                return;
            }
        }
    }

    private long rankBy(int which, W w) {
        long sum = 0;
        for (Term t : rules.get(which)) {
            sum += t.number * w.letter(t.letter);
        }
        return sum;
    }

    private int[] items(Object row) {
        if (row instanceof byte[] b) {
            int[] r = new int[b.length];
            for (int i = 0; i < r.length; i++) {
                r[i] = b[i];
            }
            return r;
        }
        if (row instanceof short[] b) {
            int[] r = new int[b.length];
            for (int i = 0; i < r.length; i++) {
                r[i] = b[i];
            }
            return r;
        }
        return ((int[]) row).clone();
    }

    private static int laneOf(Object row) {
        return row instanceof byte[] ? 0 : row instanceof short[] ? 1 : 2;
    }

    private int look(int sheet, int lane, int i, int n) {
        if (!within(sheet, 0, 3) || !within(lane, 0, 2)) {
            return BAD;
        }
        if (sheets[sheet] == null) {
            return NULL;
        }
        if (laneOf(sheets[sheet]) != lane) {
            return CAST;
        }
        return i < 0 || (long) i + n > items(sheets[sheet]).length ? INDEX : 0;
    }

    int comes(int sheet, int lane, int i, int n) {
        if (!within(n, 0, 12)) {
            return BAD;
        }
        int wrong = look(sheet, lane, i, 2 * n);
        if (wrong != 0) {
            return wrong;
        }
        int[] row = items(sheets[sheet]);
        for (int k = i; k < i + 2 * n; k += 2) {
            if (!good(row[k], row[k + 1])) {
                return NOT;
            }
        }
        if (all.size() > 1000 - n) {
            return FULL;
        }
        int first = all.size();
        for (int k = i; k < i + 2 * n; k += 2) {
            come(row[k], row[k + 1]);
        }
        return n == 0 ? NONE : first;
    }

    int type(long w, int n) {
        if (!within(n, 1, 8)) {
            return BAD;
        }
        String more = "";
        for (int i = 0; i < n; i++) {
            int b = (int) (w >> 8 * i & 0xff);
            if (!within(b, 32, 126)) {
                return BAD;
            }
            more = (char) b + more;
        }
        if (tape.length() + n > 40) {
            return FULL;
        }
        tape += more;
        return tape.length();
    }

    /** States: 0 a term's begin, 1 behind a sign, 2 behind a number, 3 behind a term. */
    int rule(int which) {
        if (!within(which, 0, 1)) {
            return BAD;
        }
        String text = tape;
        tape = "";
        List<Term> terms = new ArrayList<>();
        int state = 0;
        Term t = new Term();
        t.number = 1;
        for (int p = 0; p < text.length(); p++) {
            char c = text.charAt(p);
            if (c == ' ') {
                continue;
            }
            if ((c == '+' || c == '-') && (state == 0 || state == 3 && terms.size() < 6)) {
                t = new Term();
                t.number = c == '-' ? -1 : 1;
                state = 1;
            } else if (c >= '0' && c <= '9' && state < 2) {
                int q = p;
                while (q < text.length() && text.charAt(q) >= '0' && text.charAt(q) <= '9') {
                    q++;
                }
                String digits = text.substring(p, q).replaceFirst("^0+", "");
                if (digits.isEmpty() || digits.length() > 2) {
                    return -20 - p;
                }
                t.number *= Integer.parseInt(digits);
                p = q - 1;
                state = 2;
            } else if ("cltdnf".indexOf(c) >= 0 && state < 3) {
                t.letter = c;
                terms.add(t);
                state = 3;
            } else {
                return -20 - p;
            }
        }
        if (state != 3) {
            return -20 - text.length();
        }
        rules.set(which, terms);
        return terms.size();
    }

    private W word(int i) {
        return within(i, 0, all.size() - 1) ? all.get(i) : null;
    }

    int told(int word, int what) {
        W w = word(word);
        if (w == null || !within(what, 0, 9)) {
            return BAD;
        }
        return new int[]{w.state, w.stream, w.length, w.tick, w.end, w.gate, w.due, w.place,
            w.from < 0 ? NONE : w.from, w.house}[what];
    }

    long rank(int word, int which) {
        return word(word) == null || !within(which, 0, 1) ? -1 - 1099511627776L : rankBy(which, word(word));
    }

    int full(int what, int v) {
        int was = what == 0 ? room : drops;
        if (what == 0 && within(v, 1, 24)) {
            room = v;
        } else if (what == 1 && within(v, 0, 2)) {
            drops = v;
        } else {
            return BAD;
        }
        return was;
    }

    int ticks(int n) {
        if (!within(n, 1, 500)) {
            return BAD;
        }
        if (now + n > 99999) {
            return FULL;
        }
        for (int i = 0; i < n; i++) {
            tick();
        }
        return now;
    }

    private W onTheWay() {
        return turns.isEmpty() || turns.get(turns.size() - 1).state != 1 ? null : turns.get(turns.size() - 1);
    }

    private void tick() {
        if (onTheWay() == null) {
            W mark = bestMark();
            if (mark != null) {
                W w = bestOf(mark.house);
                marks.remove(mark);
                w.state = 1;
                w.from = now;
                turns.add(w);
            }
        }
        now++;
        W w = onTheWay();
        if (w != null && now - w.from == w.length) {
            w.state = 2;
            w.leftAt = now;
            virtual = w.end;
        }
    }

    private W bestOf(int house) {
        W best = null;
        for (W w : waiting()) {
            if (w.house == house && w.gate <= now && (best == null || rankBy(0, w) < rankBy(0, best))) {
                best = w;
            }
        }
        return best;
    }

    private W bestMark() {
        W best = null;
        for (W m : marks) {
            if (bestOf(m.house) != null && (best == null || rankBy(1, m) < rankBy(1, best))) {
                best = m;
            }
        }
        return best;
    }

    int next() {
        W mark = bestMark();
        return mark == null ? NONE : bestOf(mark.house).number;
    }

    int count(int what) {
        int[] states = new int[4];
        int open = 0;
        for (W w : all) {
            states[w.state]++;
            open += w.state == 0 && w.gate <= now ? 1 : 0;
        }
        int[] counts = {all.size(), states[0], states[1], states[2], states[3], open, now, virtual};
        return within(what, 0, 7) ? counts[what] : BAD;
    }

    int sent(int i) {
        return i < 0 ? BAD : i < turns.size() ? turns.get(i).number : NONE;
    }

    int late(int word) {
        W w = word(word);
        return w == null ? -100001 : w.leftAt < 0 ? -100004 : w.leftAt - w.tick - (w.due - w.tick);
    }

    int behind(int word, int what) {
        W w = word(word);
        if (w == null || what < -1) {
            return BAD;
        }
        if (w.from < 0) {
            return NOT;
        }
        List<Integer> ahead = new ArrayList<>();
        for (W o : turns) {
            if (o.from < w.from && o.number > w.number) {
                ahead.add(o.number);
            }
        }
        return what == -1 ? ahead.size() : what < ahead.size() ? ahead.get(what) : NONE;
    }

    int promise(int stream, int most) {
        if (!within(stream, 0, 7) || !within(most, 1, 99)) {
            return BAD;
        }
        int lesser = 0, rates = 0, bursts = 0;
        for (int[] t : told) {
            lesser += t[0] < told[stream][0] ? t[6] : 0;
            rates += t[0] <= told[stream][0] ? t[6] : 0;
            bursts += t[0] <= told[stream][0] ? t[5] : 0;
        }
        if (rates > 16 || lesser == 16) {
            return NONE;
        }
        int answer = 0;
        while (answer * (16 - lesser) < 16 * (bursts + most)) {
            answer++;
        }
        return answer;
    }

    int taken(int stream) {
        if (!within(stream, 0, 7)) {
            return BAD;
        }
        int sum = 0;
        for (W w : all) {
            sum += w.state == 2 && w.stream == stream ? w.length : 0;
        }
        return sum;
    }

    int lags(int stream) {
        if (!within(stream, 0, 7)) {
            return -100001;
        }
        boolean[] part = new boolean[8];
        for (W w : all) {
            part[w.stream] |= w.state == 0 || w.state == 2;
        }
        if (!part[stream]) {
            return -100004;
        }
        long shares = 0, took = 0;
        for (int s = 0; s < 8; s++) {
            shares += part[s] ? told[s][1] : 0;
            took += taken(s);
        }
        return (int) Math.floor((told[stream][1] * took - shares * taken(stream)) / (double) shares);
    }

    private static int wrongPairs(List<Integer> leave) {
        int wrong = 0;
        for (int a = 0; a < leave.size(); a++) {
            for (int b = 0; b < a; b++) {
                wrong += leave.get(b) > leave.get(a) ? 1 : 0;
            }
        }
        return wrong;
    }

    private int ranks(int sheet, int lane, int i, int n) {
        if (!within(n, 1, 24)) {
            return BAD;
        }
        int wrong = look(sheet, lane, i, n);
        if (wrong != 0) {
            return wrong;
        }
        for (int r : Arrays.copyOfRange(items(sheets[sheet]), i, i + n)) {
            if (!within(r, 0, 31)) {
                return NOT;
            }
        }
        return 0;
    }

    int heaps(int sheet, int lane, int i, int n, int k) {
        if (!List.of(1, 2, 4, 8).contains(k)) {
            return BAD;
        }
        int wrong = ranks(sheet, lane, i, n);
        if (wrong != 0) {
            return wrong;
        }
        List<Integer> leave = new ArrayList<>();
        for (int heap = 0; heap < k; heap++) {
            for (int r : Arrays.copyOfRange(items(sheets[sheet]), i, i + n)) {
                if (r >= heap * (32 / k) && r < (heap + 1) * (32 / k)) {
                    leave.add(r);
                }
            }
        }
        return wrongPairs(leave);
    }

    int cut(int sheet, int lane, int i, int n, int k) {
        if (!within(k, 1, 8)) {
            return BAD;
        }
        int wrong = ranks(sheet, lane, i, n);
        if (wrong != 0) {
            return wrong;
        }
        int[] row = Arrays.copyOfRange(items(sheets[sheet]), i, i + n);
        return cutFrom(row, 0, k, new Integer[33][9]);
    }

    private int cutFrom(int[] row, int from, int k, Integer[][] known) {
        if (from > 31) {
            return 0;
        }
        if (k == 0) {
            return 1000000;
        }
        if (known[from][k] != null) {
            return known[from][k];
        }
        int best = 1000000;
        for (int to = from; to < 32; to++) {
            List<Integer> heap = new ArrayList<>();
            for (int r : row) {
                if (within(r, from, to)) {
                    heap.add(r);
                }
            }
            best = Math.min(best, wrongPairs(heap) + cutFrom(row, to + 1, k - 1, known));
        }
        known[from][k] = best;
        return best;
    }

    int found(int sheet, int lane, int i, int n) {
        if (!within(n, 2, 8)) {
            return BAD;
        }
        int wrong = look(sheet, lane, i, n);
        if (wrong != 0) {
            return wrong;
        }
        List<W> row = new ArrayList<>();
        for (int v : Arrays.copyOfRange(items(sheets[sheet]), i, i + n)) {
            if (word(v) == null || row.contains(word(v))) {
                return NOT;
            }
            row.add(word(v));
        }
        String letters = "cltd";
        for (int second = 0; second < 2; second++) {
            for (int a = 0; a < 4; a++) {
                for (int x = 1; x <= 4; x++) {
                    for (int b = 0; b < 4; b++) {
                        for (int y = 1; y <= 4; y++) {
                            List<W> sorted = new ArrayList<>(row);
                            int fa = a, fx = x, fb = b, fy = second * y;
                            sorted.sort((p, q) -> Integer.compare(p.number, q.number));
                            sorted.sort((p, q) -> Long.compare(
                                fx * p.letter(letters.charAt(fa)) + fy * p.letter(letters.charAt(fb)),
                                fx * q.letter(letters.charAt(fa)) + fy * q.letter(letters.charAt(fb))));
                            if (sorted.equals(row)) {
                                int one = 10 * x + a + 1;
                                return second == 0 ? one : 100 * one + 10 * y + b + 1;
                            }
                        }
                    }
                }
            }
        }
        return NONE;
    }

    int order(int sheet, int lane, int i, int n, int what) {
        if (!within(n, 1, 6) || !within(what, -1, n - 1)) {
            return BAD;
        }
        int wrong = look(sheet, lane, i, n);
        if (wrong != 0) {
            return wrong;
        }
        List<Integer> row = new ArrayList<>();
        for (int v : Arrays.copyOfRange(items(sheets[sheet]), i, i + n)) {
            if (word(v) == null || word(v).state != 0 || row.contains(v)) {
                return NOT;
            }
            row.add(v);
        }
        Collections.sort(row);
        int[] best = {Integer.MAX_VALUE};
        List<Integer> order = new ArrayList<>();
        tryAll(row, new ArrayList<>(), best, order);
        return what == -1 ? best[0] : order.get(what);
    }

    private void tryAll(List<Integer> rest, List<Integer> taken, int[] best, List<Integer> order) {
        if (rest.isEmpty()) {
            int time = now;
            int sum = 0;
            for (int v : taken) {
                time += all.get(v).length;
                sum += Math.max(0, time - all.get(v).due);
            }
            if (sum < best[0]) {
                best[0] = sum;
                order.clear();
                order.addAll(taken);
            }
        }
        for (int k = 0; k < rest.size(); k++) {
            List<Integer> others = new ArrayList<>(rest);
            taken.add(others.remove(k));
            tryAll(others, taken, best, order);
            taken.remove(taken.size() - 1);
        }
    }

    int sheet(int sheet, int lane, int n) {
        if (!within(sheet, 0, 3) || !within(lane, 0, 2) || n > 24) {
            return BAD;
        }
        if (n < 0) {
            return SIZE;
        }
        sheets[sheet] = lane == 0 ? new byte[n] : lane == 1 ? new short[n] : new int[n];
        return n;
    }

    int drop(int sheet) {
        if (!within(sheet, 0, 3)) {
            return BAD;
        }
        if (sheets[sheet] == null) {
            return NULL;
        }
        int n = items(sheets[sheet]).length;
        sheets[sheet] = null;
        return n;
    }

    int item(int sheet, int lane, int i, int v) {
        int wrong = look(sheet, lane, i, 1);
        if (wrong != 0) {
            return wrong;
        }
        if (lane == 0) {
            ((byte[]) sheets[sheet])[i] = (byte) v;
        } else if (lane == 1) {
            ((short[]) sheets[sheet])[i] = (short) v;
        } else {
            ((int[]) sheets[sheet])[i] = v;
        }
        return 1;
    }

    int copy(int from, int i, int to, int j, int n) {
        if (!within(from, 0, 3) || !within(to, 0, 3)) {
            return BAD;
        }
        if (sheets[from] == null || sheets[to] == null) {
            return NULL;
        }
        if (laneOf(sheets[from]) != laneOf(sheets[to])) {
            return CAST;
        }
        try {
            System.arraycopy(sheets[from], i, sheets[to], j, n);
        } catch (IndexOutOfBoundsException e) {
            return INDEX;
        }
        return n;
    }
}
