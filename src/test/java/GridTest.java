/** Each call with each mix of numbers at the edges, answered by the class and by the model. */
public final class GridTest {
    private static final int LOW = Integer.MIN_VALUE, HIGH = Integer.MAX_VALUE;
    private static final int[] SMALL = {LOW, -2, -1, 0, 1, 2, 3, 4, 5, 6, 7, 8, 9, 10, HIGH};
    private static final int[] WIDE = {LOW, -1, 0, 1, 2, 3, 4, 6, 7, 8, 9, 10, 12, 13, 16, 17, 24, 25, 99, 100, 127, 128, 255,
        256, 500, 501, 999, 1000, 32768, 65536, HIGH};
    private static final int[] SHEETS = {LOW, -1, 0, 1, 2, 3, 4, HIGH};
    private static final int[] LANES = {-1, 0, 1, 2, 3};
    private static final int[] PLACES = {LOW, -1, 0, 1, 2, 16, 18, 22, 23, 24, 25, HIGH};
    private static final int[] MANY = {LOW, -1, 0, 1, 2, 6, 7, 8, 9, 12, 13, 24, 25, HIGH};
    private static final int RENEW = 300;

    private static TurnPort x;
    private static Model m;
    private static int calls = RENEW;

    public static void main(String[] args) {
        streams();
        words();
        sheets();
        rows();
        copies();
        Due.end("GridTest");
    }

    /** Sheet 0 has ranks as bytes, 1 words as shorts, 2 streams and lengths as ints, 3 nothing. */
    private static void use() {
        if (calls < RENEW) {
            return;
        }
        calls = 0;
        x = new TurnPort();
        m = new Model();
        for (int s = 0; s < 3; s++) {
            Due.is("a row", x.sheet(s, s, 24), m.sheet(s, s, 24));
            for (int i = 0; i < 24; i++) {
                int v = s == 0 ? i * 13 % 32 : s == 1 ? (i * 5 + 3) % 24 : i % 2 == 0 ? i % 8 : i;
                Due.is("item", x.item(s, s, i, v), m.item(s, s, i, v));
            }
        }
        for (int i = 0; i < 2; i++) {
            Due.is("comes", x.comes(2, 2, 0, 12), m.comes(2, 2, 0, 12));
            Due.is("ticks", x.ticks(4), m.ticks(4));
        }
    }

    private static void same(String call, long got, long want) {
        calls++;
        Due.is(call, got, want);
    }

    private static void streams() {
        for (int a : SMALL) {
            for (int b : WIDE) {
                use();
                same("come " + a + " " + b, x.come(a, b), m.come(a, b));
                same("promise " + a + " " + b, x.promise(a, b), m.promise(a, b));
                same("full " + a + " " + b, x.full(a, b), m.full(a, b));
                same("type " + b + " " + a, x.type(b, a), m.type(b, a));
                same("behind " + b + " " + a, x.behind(b, a), m.behind(b, a));
                for (int c : WIDE) {
                    use();
                    same("set " + a + " " + b + " " + c, x.set(a, b, c), m.set(a, b, c));
                }
            }
            same("lags " + a, x.lags(a), m.lags(a));
            same("taken " + a, x.taken(a), m.taken(a));
            same("count " + a, x.count(a), m.count(a));
            same("rule " + a, x.rule(a), m.rule(a));
        }
    }

    private static void words() {
        for (int a : WIDE) {
            use();
            same("ticks " + a, x.ticks(a), m.ticks(a));
            same("sent " + a, x.sent(a), m.sent(a));
            same("late " + a, x.late(a), m.late(a));
            for (int b : SMALL) {
                same("told " + a + " " + b, x.told(a, b), m.told(a, b));
                same("rank " + a + " " + b, x.rank(a, b), m.rank(a, b));
                same("behind " + a + " " + b, x.behind(a, b), m.behind(a, b));
            }
        }
    }

    private static void sheets() {
        for (int s : SHEETS) {
            for (int lane : LANES) {
                for (int n : MANY) {
                    use();
                    same("sheet " + s + " " + lane + " " + n, x.sheet(s, lane, n), m.sheet(s, lane, n));
                    for (int v : WIDE) {
                        use();
                        same("item " + s + " " + lane + " " + n + " " + v, x.item(s, lane, n, v), m.item(s, lane, n, v));
                    }
                }
            }
            same("drop " + s, x.drop(s), m.drop(s));
        }
    }

    private static void rows() {
        calls = RENEW;
        for (int s : SHEETS) {
            for (int lane : LANES) {
                for (int i : PLACES) {
                    for (int n : MANY) {
                        row(s, lane, i, n);
                    }
                }
            }
        }
    }

    private static void row(int s, int lane, int i, int n) {
        String name = " " + s + " " + lane + " " + i + " " + n;
        use();
        same("found" + name, x.found(s, lane, i, n), m.found(s, lane, i, n));
        for (int k : SMALL) {
            use();
            same("heaps" + name + " " + k, x.heaps(s, lane, i, n, k), m.heaps(s, lane, i, n, k));
            same("order" + name + " " + k, x.order(s, lane, i, n, k), m.order(s, lane, i, n, k));
        }
        int[] cuts = {LOW, -1, 0, 1, 3, 8, 9, HIGH};
        for (int k : cuts) {
            use();
            same("cut" + name + " " + k, x.cut(s, lane, i, n, k), m.cut(s, lane, i, n, k));
        }
        use();
        same("comes" + name, x.comes(s, lane, i, n), m.comes(s, lane, i, n));
    }

    private static void copies() {
        calls = RENEW;
        for (int from : SHEETS) {
            for (int to : SHEETS) {
                for (int i : PLACES) {
                    for (int j : PLACES) {
                        for (int n : MANY) {
                            use();
                            same("copy " + from + " " + i + " " + to + " " + j + " " + n,
                                x.copy(from, i, to, j, n), m.copy(from, i, to, j, n));
                        }
                    }
                }
            }
        }
    }
}
