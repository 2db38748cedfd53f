import java.util.Random;

/** Many runs of calls, some with any ints, each call answered by the class and by the model. */
public final class ModelTest {
    private static final int RUNS = 1500, CALLS = 512;
    private static final int[] EDGES = {Integer.MIN_VALUE, -100, -2, -1, 0, 1, 2, 3, 4, 7, 8, 9, 10, 12, 13, 15, 16, 17,
        23, 24, 25, 31, 32, 39, 40, 41, 99, 100, 127, 128, 255, 256, 499, 500, 501, 999, 1000, 1001, 32767, 32768,
        65535, 65536, 99999, 100000, Integer.MAX_VALUE - 1, Integer.MAX_VALUE};

    private final Random random;
    private final int mood;
    private final TurnPort x = new TurnPort();
    private final Model m = new Model();
    private final int[] laneOf = new int[4];
    private final int[] sizeOf = new int[4];
    private String call;

    private ModelTest(long seed) {
        random = new Random(seed);
        mood = (int) (seed % 6);
    }

    public static void main(String[] args) {
        for (int run = 0; run < RUNS; run++) {
            new ModelTest(run).go(run);
        }
        Due.end("ModelTest");
    }

    private void go(int run) {
        for (int i = 0; i < CALLS; i++) {
            call = "?";
            long[] answers;
            try {
                answers = random.nextInt(12) == 0 ? anyCall(random.nextInt(25), true) : anyCall(chosen(), false);
            } catch (RuntimeException e) {
                e.printStackTrace(System.out);
                answers = new long[]{Long.MIN_VALUE, 0};
            }
            Due.is("run " + run + ", call " + i + ": " + call, answers[0], answers[1]);
        }
    }

    /** Each mood calls some more often than others, so that some runs have many words, some many ticks. */
    private int chosen() {
        int r = random.nextInt(100);
        int[] often = {1, 8, 1, 2, 3, 0};
        if (r < 25) {
            return mood == 3 ? 2 : often[mood];
        }
        return random.nextInt(25);
    }

    private int pick(int least, int most, boolean wild) {
        if (wild && random.nextInt(3) == 0) {
            return EDGES[random.nextInt(EDGES.length)];
        }
        if (random.nextInt(60) == 0) {
            return random.nextBoolean() ? least - 1 : most + 1;
        }
        return least + random.nextInt(most - least + 1);
    }

    private int word(boolean wild) {
        int came = Math.max(1, m.count(0));
        int recent = Math.max(0, came - 30);
        return random.nextInt(3) == 0 ? pick(0, came - 1, wild) : pick(recent, came - 1, wild);
    }

    private int waitingWord() {
        int w = word(false);
        for (int tries = 0; tries < 20 && m.told(w, 0) != 0; tries++) {
            w = word(false);
        }
        return w;
    }

    private long[] pair(String text, long got, long want) {
        call = text;
        return new long[]{got, want};
    }

    private int lane(int sheet, boolean wild) {
        return sheet >= 0 && sheet < 4 && random.nextInt(20) != 0 ? laneOf[sheet] : pick(0, 2, wild);
    }

    private int from(int sheet, int n, boolean wild) {
        int size = sheet >= 0 && sheet < 4 ? sizeOf[sheet] : 0;
        return pick(0, Math.max(0, Math.min(24, size - Math.max(0, n))), wild);
    }

    private int many(int sheet, int least, int most, boolean wild) {
        int size = sheet >= 0 && sheet < 4 ? sizeOf[sheet] : 0;
        return pick(least, Math.max(least, Math.min(most, size)), wild);
    }

    /** Fills a row on both sides, outside the count of calls that are compared one by one. */
    private void fill(int sheet, int kind, int n) {
        int lane = kind == 1 && m.count(0) > 127 ? 1 + random.nextInt(2) : random.nextInt(3);
        int size = Math.max(n, random.nextInt(25));
        int small = 1 + random.nextInt(32);
        x.sheet(sheet, lane, size);
        m.sheet(sheet, lane, size);
        laneOf[sheet] = lane;
        sizeOf[sheet] = size;
        for (int i = 0; i < size; i++) {
            int v = kind == 0 ? random.nextInt(small)
                : kind == 1 ? word(false)
                : kind == 2 ? waitingWord()
                : i % 2 == 0 ? random.nextInt(8) : 1 + random.nextInt(mood == 1 ? 9 : 30);
            if (random.nextInt(200) == 0) {
                v = EDGES[random.nextInt(EDGES.length)];
            }
            Due.is("fill", x.item(sheet, lane, i, v), m.item(sheet, lane, i, v));
        }
    }

    private long[] anyCall(int which, boolean wild) {
        switch (which) {
            case 0: return set(wild);
            case 1: {
                int s = pick(0, 7, wild);
                int l = random.nextInt(3) == 0 ? pick(1, 99, wild) : pick(1, 6, wild);
                return pair("come " + s + " " + l, x.come(s, l), m.come(s, l));
            }
            case 2: {
                int s = pick(0, 3, wild);
                if (s >= 0 && s < 4 && random.nextInt(4) != 0) {
                    fill(s, 3, random.nextInt(25));
                }
                int n = s >= 0 && s < 4 ? pick(0, Math.max(0, Math.min(12, sizeOf[s] / 2)), wild) : pick(0, 12, wild);
                int i = from(s, n > 100 || n < -100 ? 0 : 2 * n, wild), lane = lane(s, wild);
                return pair("comes " + s + " " + lane + " " + i + " " + n, x.comes(s, lane, i, n), m.comes(s, lane, i, n));
            }
            case 3: return type(wild);
            case 4: {
                int r = pick(0, 1, wild);
                return pair("rule " + r, x.rule(r), m.rule(r));
            }
            case 5: {
                int w = word(wild), what = pick(0, 9, wild);
                return pair("told " + w + " " + what, x.told(w, what), m.told(w, what));
            }
            case 6: {
                int w = word(wild), r = pick(0, 1, wild);
                return pair("rank " + w + " " + r, x.rank(w, r), m.rank(w, r));
            }
            case 7: {
                int what = pick(0, 1, wild);
                int v = what == 0 ? pick(1, mood % 2 == 0 ? 24 : 5, wild) : pick(0, 2, wild);
                return pair("full " + what + " " + v, x.full(what, v), m.full(what, v));
            }
            case 8: {
                int n = pick(1, mood == 1 ? 500 : random.nextInt(8) == 0 ? 80 : 6, wild);
                return pair("ticks " + n, x.ticks(n), m.ticks(n));
            }
            case 9: return pair("next", x.next(), m.next());
            case 10: {
                int what = pick(0, 7, wild);
                return pair("count " + what, x.count(what), m.count(what));
            }
            case 11: {
                int i = pick(0, Math.max(1, m.count(3)), wild);
                return pair("sent " + i, x.sent(i), m.sent(i));
            }
            case 12: {
                int w = word(wild);
                return pair("late " + w, x.late(w), m.late(w));
            }
            case 13: {
                int w = word(wild), what = pick(-1, 4, wild);
                return pair("behind " + w + " " + what, x.behind(w, what), m.behind(w, what));
            }
            default: return laterCall(which, wild);
        }
    }

    private long[] set(boolean wild) {
        int[] most = {9, 16, 999, 99, 3, 999, 16};
        int[] small = {3, 16, 40, 9, 3, 999, 3};
        int s = pick(0, 7, wild), what = pick(0, 6, wild);
        int top = what < 0 || what > 6 ? 5 : random.nextBoolean() ? most[what] : small[what];
        int v = pick(what == 1 ? 1 : 0, top, wild);
        return pair("set " + s + " " + what + " " + v, x.set(s, what, v), m.set(s, what, v));
    }

    /** Most texts are rules or nearly so, and are taken at once. */
    private long[] type(boolean wild) {
        if (wild) {
            long w = random.nextBoolean() ? random.nextLong() : random.nextLong() & 0x3f3f3f3f3f3f3f3fL | 0x2020202020202020L;
            int n = pick(1, 8, true);
            return pair("type " + w + " " + n, x.type(w, n), m.type(w, n));
        }
        String text = "";
        int terms = 1 + random.nextInt(random.nextInt(5) == 0 ? 7 : 3);
        for (int i = 0; i < terms; i++) {
            text += random.nextInt(6) == 0 ? " " : "";
            text += i == 0 && random.nextBoolean() ? "" : random.nextBoolean() ? "+" : "-";
            text += random.nextInt(6) == 0 ? " " : "";
            text += random.nextInt(3) == 0 ? String.valueOf(random.nextInt(random.nextInt(5) == 0 ? 110 : 20)) : "";
            text += random.nextInt(6) == 0 ? " " : "";
            text += "cltdnf".charAt(random.nextInt(6));
        }
        if (random.nextInt(6) == 0) {
            int p = random.nextInt(text.length());
            text = text.substring(0, p) + "+-09cx ~".charAt(random.nextInt(8)) + text.substring(p + random.nextInt(2));
        }
        for (int p = 0; p < text.length(); p += 8) {
            String part = text.substring(p, Math.min(text.length(), p + 8));
            long w = random.nextLong();
            for (char c : part.toCharArray()) {
                w = w << 8 | c;
            }
            Due.is("type '" + part + "'", x.type(w, part.length()), m.type(w, part.length()));
        }
        int r = pick(0, 1, false);
        return pair("rule " + r + " '" + text + "'", x.rule(r), m.rule(r));
    }

    private long[] laterCall(int which, boolean wild) {
        switch (which) {
            case 14: {
                int s = pick(0, 7, wild), most = pick(1, 99, wild);
                return pair("promise " + s + " " + most, x.promise(s, most), m.promise(s, most));
            }
            case 15: {
                int s = pick(0, 7, wild);
                return pair("taken " + s, x.taken(s), m.taken(s));
            }
            case 16: {
                int s = pick(0, 7, wild);
                return pair("lags " + s, x.lags(s), m.lags(s));
            }
            case 17:
            case 18: return heapCall(which, wild);
            case 19:
            case 20: return rowCall(which, wild);
            case 21: {
                int s = pick(0, 3, wild), lane = pick(0, 2, wild), n = pick(0, 24, wild);
                long[] answers = pair("sheet " + s + " " + lane + " " + n, x.sheet(s, lane, n), m.sheet(s, lane, n));
                if (answers[1] >= 0) {
                    laneOf[s] = lane;
                    sizeOf[s] = n;
                }
                return answers;
            }
            case 22: {
                int s = pick(0, 3, wild);
                return random.nextInt(3) != 0 ? pair("next", x.next(), m.next()) : pair("drop " + s, x.drop(s), m.drop(s));
            }
            case 23: {
                int s = pick(0, 3, wild), lane = lane(s, wild), i = from(s, 1, wild);
                int v = random.nextBoolean() ? random.nextInt() : random.nextInt(100);
                return pair("item " + s + " " + lane + " " + i + " " + v, x.item(s, lane, i, v), m.item(s, lane, i, v));
            }
            default: {
                int a = pick(0, 3, wild), b = random.nextInt(3) == 0 ? a : pick(0, 3, wild);
                int n = many(a, 0, 24, wild), i = from(a, n, wild), j = from(b, n, wild);
                return pair("copy " + a + " " + i + " " + b + " " + j + " " + n, x.copy(a, i, b, j, n), m.copy(a, i, b, j, n));
            }
        }
    }

    private long[] heapCall(int which, boolean wild) {
        int s = pick(0, 3, wild);
        if (s >= 0 && s < 4 && random.nextInt(4) != 0) {
            fill(s, 0, 1 + random.nextInt(24));
        }
        int n = many(s, 1, 24, wild), i = from(s, n, wild), lane = lane(s, wild);
        int k = which == 18 ? pick(1, 8, wild) : wild ? pick(1, 8, true) : 1 << random.nextInt(4);
        String text = " " + s + " " + lane + " " + i + " " + n + " " + k;
        return which == 17 ? pair("heaps" + text, x.heaps(s, lane, i, n, k), m.heaps(s, lane, i, n, k))
            : pair("cut" + text, x.cut(s, lane, i, n, k), m.cut(s, lane, i, n, k));
    }

    private long[] rowCall(int which, boolean wild) {
        int s = pick(0, 3, wild);
        int most = which == 19 ? 8 : 6;
        int n = random.nextBoolean() ? pick(2, 3, wild) : pick(2, most, wild);
        if (s >= 0 && s < 4 && random.nextInt(5) != 0) {
            fill(s, which == 19 ? 1 : 2, Math.max(0, Math.min(n, 24)));
        }
        int i = from(s, n, wild), lane = lane(s, wild);
        String text = " " + s + " " + lane + " " + i + " " + n;
        if (which == 19) {
            return pair("found" + text, x.found(s, lane, i, n), m.found(s, lane, i, n));
        }
        int what = pick(-1, Math.max(0, Math.min(9, n - 1)), wild);
        return pair("order" + text + " " + what, x.order(s, lane, i, n, what), m.order(s, lane, i, n, what));
    }
}
