/** Terms, section 3, promises, shares and heaps; promises 16 to 20. */
final class PlanEdges {
    private static final int BAD = TurnPort.BAD, NONE = TurnPort.NONE;

    private PlanEdges() {
    }

    static void run() {
        promiseOfAStream();
        noPromise();
        promise();
        taken();
        takesPart();
        lagging();
        takenCall();
        lags();
        ranksInARow();
        leaveHeapByHeap();
        outOfOrder();
        bestCut();
        allCuts();
        heaps();
        cut();
    }

    private static void tell(TurnPort x, int stream, int kind, int burst, int rate) {
        x.set(stream, 0, kind);
        x.set(stream, 5, burst);
        x.set(stream, 6, rate);
    }

    private static void promiseOfAStream() {
        Said.says("==== 3 PROMISE of a STREAM, by CLASSES (the least first), all keeping to BURST at once and RATE by 16 a TICK: "
            + "16 (BURSTS of all STREAMS of its CLASS and lesser ones together, and MOST LENGTH) "
            + "by (16 less RATES of all of lesser CLASSES together), to the higher whole one;");
        TurnPort x = new TurnPort();
        tell(x, 0, 2, 10, 0);
        tell(x, 1, 2, 20, 3);
        tell(x, 2, 1, 7, 13);
        tell(x, 3, 3, 500, 16);
        Due.is("class 0: its most length alone", x.promise(4, 5), 5);
        Due.is("class 1: its burst too, by 16", x.promise(2, 5), 12);
        Due.is("class 2: 16 (37 + 1) by 3 is 202 and 2 of 3", x.promise(0, 1), 203);
        Due.is("class 2: 16 (37 + 2) by 3 is 208", x.promise(0, 2), 208);
        Due.is("class 2: 16 (37 + 3) by 3 is 213 and 1 of 3", x.promise(0, 3), 214);
        Due.is("the same for all of its class", x.promise(1, 3), 214);
        TurnPort y = new TurnPort();
        int[] rates = {3, 3, 3, 3, 3, 0, 0, 1};
        for (int s = 0; s < 8; s++) {
            tell(y, s, s == 7 ? 9 : 8, 999, rates[s]);
        }
        Due.is("the greatest: 16 (7992 + 99) by 1", y.promise(7, 99), 129456);
    }

    /** Streams of class 4 and 5 have these rates, all others are of class 6 and have 16 each. */
    private static int promiseBy(int lesser, int own) {
        TurnPort x = new TurnPort();
        for (int s = 0; s < 8; s++) {
            tell(x, s, 6, 0, 16);
        }
        tell(x, 1, 4, 0, lesser);
        tell(x, 2, 5, 0, own);
        return x.promise(2, 1);
    }

    private static void noPromise() {
        Said.says("none, if RATES of its CLASS and lesser ones together are above 16, or those of lesser ones 16.");
        Due.is("0 and 16: 16 together", promiseBy(0, 16), 1);
        Due.is("8 and 8: 16 together", promiseBy(8, 8), 2);
        Due.is("15 and 1: 16 together", promiseBy(15, 1), 16);
        Due.is("15 and 0", promiseBy(15, 0), 16);
        Due.is("15 and 2: 17 together", promiseBy(15, 2), NONE);
        Due.is("1 and 16: 17 together", promiseBy(1, 16), NONE);
        Due.is("16 and 0: lesser ones 16", promiseBy(16, 0), NONE);
        Due.is("16 and 16", promiseBy(16, 16), NONE);
        TurnPort x = new TurnPort();
        tell(x, 0, 1, 0, 9);
        tell(x, 1, 1, 0, 8);
        Due.is("17 in a class of two", x.promise(0, 1), NONE);
        x.set(2, 0, 2);
        Due.is("and for those above", x.promise(2, 1), NONE);
        x.set(1, 6, 7);
        Due.is("16 in a class of two", x.promise(0, 1), 1);
        Due.is("but lesser ones 16", x.promise(2, 1), NONE);
    }

    private static void promise() {
        Said.says("`int promise(int stream, int most)`: PROMISE, MOST LENGTH (1 .. 99) told. BAD; NONE.");
        Span.bounds("promise, most", 1, 99, BAD, most -> new TurnPort().promise(0, most));
        Due.is("most 1", new TurnPort().promise(0, 1), 1);
        Due.is("most 99", new TurnPort().promise(0, 99), 99);
    }

    private static void taken() {
        Said.says("TAKEN by a STREAM: LENGTHS of its WORDS that LEFT together.");
        TurnPort x = new TurnPort();
        x.full(0, 3);
        x.come(2, 5);
        x.come(3, 7);
        x.come(2, 99);
        x.come(2, 50);
        x.ticks(4);
        Due.is("sent for 4 of 5", x.taken(2), 0);
        x.ticks(1);
        Due.is("left", x.taken(2), 5);
        x.ticks(7 + 98);
        Due.is("sent for 98 of 99", x.taken(2), 5);
        x.ticks(1);
        Due.is("both together; the dropped one took nothing", x.taken(2), 104);
        Due.is("each stream its own", x.taken(3), 7);
        Due.is("none", x.taken(4), 0);
    }

    private static void takesPart() {
        Said.says("BEHIND is a STREAM that took something, or of which a WORD waits:");
        TurnPort x = new TurnPort();
        x.full(0, 1);
        Due.is("nothing came", x.lags(0), -100004);
        x.come(0, 2);
        x.come(1, 2);
        Due.is("a word waits", x.lags(0), 0);
        Due.is("its only word was dropped", x.lags(1), -100004);
        x.ticks(1);
        Due.is("its only word is sent", x.lags(0), -100004);
        x.ticks(1);
        Due.is("it took something", x.lags(0), 0);
        x.come(1, 2);
        Due.is("a word waits, nothing taken", x.lags(1), 1);
        Due.is("the other one's share counts", x.lags(0), -1);
        x.ticks(1);
        Due.is("while it is sent the other is alone", x.lags(0), 0);
        TurnPort y = new TurnPort();
        y.come(5, 1);
        y.ticks(1);
        Due.is("it took 1, the least that can be", y.lags(5), 0);
        for (int s = 0; s < 4; s++) {
            y.come(s, 9);
        }
        Due.is("one word of it waits among others", y.lags(3), 0);
        Due.is("it took all, of five shares one: (1 - 5) by 5, lower", y.lags(5), -1);
    }

    /** Stream 0 of share 3 took a, stream 1 of share 2 took b; what stream 1 lags. */
    private static int lagsBy(int a, int b) {
        TurnPort x = new TurnPort();
        x.set(0, 1, 3);
        x.set(1, 1, 2);
        x.set(2, 1, 16);
        x.come(0, a);
        x.come(1, b);
        x.ticks(a + b);
        return x.lags(1);
    }

    private static void lagging() {
        Said.says("with S the SHARES of all such together, by its SHARE times what all took, less S times its TAKEN, "
            + "by S (to the lower whole one).");
        Due.is("(2 * 10 - 5 * 4) by 5", lagsBy(6, 4), 0);
        Due.is("(2 * 11 - 5 * 4) by 5", lagsBy(7, 4), 0);
        Due.is("(2 * 13 - 5 * 4) by 5", lagsBy(9, 4), 1);
        Due.is("(2 * 9 - 5 * 4) by 5 is -2 of 5", lagsBy(5, 4), -1);
        Due.is("(2 * 15 - 5 * 7) by 5 is -1", lagsBy(8, 7), -1);
        Due.is("(2 * 14 - 5 * 7) by 5 is -1 and -2 of 5", lagsBy(7, 7), -2);
        TurnPort x = new TurnPort();
        x.come(0, 8);
        x.ticks(8);
        x.come(1, 1);
        x.set(1, 1, 15);
        Due.is("a share as it is told now: 15 * 8 by 16, lower", x.lags(1), 7);
        Due.is("(8 - 16 * 8) by 16, lower", x.lags(0), -8);
    }

    private static void takenCall() {
        Said.says("`int taken(int stream)`: TAKEN. BAD.");
        TurnPort x = new TurnPort();
        x.come(7, 3);
        x.ticks(3);
        Due.is("stream 7", x.taken(7), 3);
        Due.is("stream 0", x.taken(0), 0);
        Span.bounds("taken", 0, 7, BAD, s -> x.taken(s));
    }

    private static void lags() {
        Said.says("`int lags(int stream)`: BEHIND its SHARE. BAD less 100000; NONE less that: it took and waits nothing.");
        TurnPort x = new TurnPort();
        x.come(7, 3);
        Span.bounds("lags", 0, 7, -100001, s -> x.lags(s));
        Due.is("it waits", x.lags(7), 0);
        Due.is("it took and waits nothing", x.lags(6), -100004);
    }

    private static int heapsOf(int k, int... ranks) {
        TurnPort x = new TurnPort();
        Rows.put(x, 1, 2, ranks);
        return x.heaps(1, 2, 0, ranks.length, k);
    }

    private static int cutOf(int k, int... ranks) {
        TurnPort x = new TurnPort();
        Rows.put(x, 1, 2, ranks);
        return x.cut(1, 2, 0, ranks.length, k);
    }

    private static void ranksInARow() {
        Said.says("HEAPS: ranks 0 .. 31 in a row (items of a SHEET, 1 to 24) fall to HEAPS 1 .. 8, each a span of ranks, "
            + "one behind the other;");
        Span.bounds("heaps, a rank", 0, 31, TurnPort.NOT, r -> heapsOf(1, 5, r, 5));
        Span.bounds("cut, a rank", 0, 31, TurnPort.NOT, r -> cutOf(1, 5, r, 5));
        Span.bounds("heaps, the last rank", 0, 31, TurnPort.NOT, r -> heapsOf(8, 5, r));
        Span.bounds("cut, the first rank", 0, 31, TurnPort.NOT, r -> cutOf(8, r, 5));
        TurnPort x = new TurnPort();
        x.sheet(0, 0, 24);
        Span.bounds("heaps, n", 1, 24, BAD, n -> x.heaps(0, 0, 0, n, 1));
        Span.bounds("cut, n", 1, 24, BAD, n -> x.cut(0, 0, 0, n, 1));
        Due.is("one rank", heapsOf(8, 31), 0);
        int[] falling = new int[24];
        for (int i = 0; i < 24; i++) {
            falling[i] = 31 - i;
        }
        Due.is("24 ranks, one heap", heapsOf(1, falling), 276);
        Due.is("24 ranks, eight heaps of fours", heapsOf(8, falling), 36);
        Due.is("24 ranks, eight heaps of threes", cutOf(8, falling), 24);
    }

    private static void leaveHeapByHeap() {
        Said.says("all leave HEAP by HEAP, within one as they stand.");
        Due.is("31 stands first, but leaves last", heapsOf(2, 31, 0, 15), 0);
        Due.is("15 leaves ahead of 0, as they stand", heapsOf(2, 31, 15, 0), 1);
        Due.is("as they stand", heapsOf(1, 0, 31, 15), 1);
        Due.is("in order", heapsOf(1, 0, 15, 31), 0);
    }

    private static void outOfOrder() {
        Said.says("OUT OF ORDER are pairs that leave the greater first.");
        Due.is("the greater first", heapsOf(1, 6, 5), 1);
        Due.is("like ones", heapsOf(1, 5, 5), 0);
        Due.is("the lesser first", heapsOf(1, 5, 6), 0);
        Due.is("pairs need not be neighbours", heapsOf(1, 7, 9, 5), 2);
        Due.is("cut: the greater first", cutOf(1, 6, 5), 1);
        Due.is("cut: like ones", cutOf(1, 5, 5), 0);
    }

    private static void bestCut() {
        Said.says("THE BEST CUT for k HEAPS at most: the least OUT OF ORDER.");
        int[] due = {28, 12, 7, 4, 3, 2, 1, 0};
        int[] eight = {31, 30, 17, 16, 15, 14, 1, 0};
        int[] nine = {31, 30, 17, 16, 15, 14, 2, 1, 0};
        for (int k = 1; k <= 8; k++) {
            Due.is("eight falling by " + k, cutOf(k, eight), due[k - 1]);
        }
        Due.is("nine falling by 8", cutOf(8, nine), 1);
        for (int k = 1; k <= 8; k++) {
            Due.is("more heaps than are needed: " + k, cutOf(k, 0, 0, 1, 31), 0);
        }
        for (int from = 0; from <= 24; from++) {
            int[] falling = {from + 7, from + 6, from + 5, from + 4, from + 3, from + 2, from + 1, from};
            Due.is("eight neighbours from " + from + ", a heap each", cutOf(8, falling), 0);
            Due.is("eight neighbours from " + from + ", one heap less", cutOf(7, falling), 1);
        }
        for (int from = 0; from <= 29; from++) {
            Due.is("three neighbours from " + from + ", a heap each", cutOf(3, from + 2, from + 1, from), 0);
        }
        Due.is("a cut behind rank 0", cutOf(2, 1, 0, 31, 1, 0), 1);
        Due.is("a cut ahead of rank 31", cutOf(2, 31, 1, 2, 3, 30), 0);
    }

    private static int leave(int[] row, boolean[] cutBehind) {
        int wrong = 0;
        for (int i = 0; i < row.length; i++) {
            for (int j = i + 1; j < row.length; j++) {
                boolean apart = false;
                for (int r = row[j]; r < row[i]; r++) {
                    apart |= cutBehind[r];
                }
                wrong += row[i] > row[j] && !apart ? 1 : 0;
            }
        }
        return wrong;
    }

    private static int leastBy(int[] row, boolean[] cutBehind, int from, int cuts) {
        int least = leave(row, cutBehind);
        for (int r = from; r < 31 && cuts > 0; r++) {
            cutBehind[r] = true;
            least = Math.min(least, leastBy(row, cutBehind, r + 1, cuts - 1));
            cutBehind[r] = false;
        }
        return least;
    }

    /** Each cut is tried, for some rows that look like any. */
    private static void allCuts() {
        int seed = 7;
        for (int run = 0; run < 12; run++) {
            int[] row = new int[4 + run];
            for (int i = 0; i < row.length; i++) {
                seed = seed * 1103515245 + 12345;
                row[i] = seed >>> 16 & 31;
            }
            for (int k = 1; k <= 4; k++) {
                Due.is("run " + run + " by " + k, cutOf(k, row), leastBy(row, new boolean[32], 0, k - 1));
            }
        }
    }

    private static void heaps() {
        Said.says("`int heaps(int sheet, int lane, int i, int n, int k)`: OUT OF ORDER of n ranks (1 .. 24) from a SHEET, "
            + "taken as a row of a LANE, from item i on, by k HEAPS of like spans (1, 2, 4, 8). "
            + "BAD; NULL; CAST; INDEX; NOT: one is not 0 .. 31.");
        int[] good = {1, 2, 4, 8};
        for (int k : good) {
            for (int r = 1; r < 32; r++) {
                Due.is("neighbours " + r + " by " + k, heapsOf(k, r, r - 1), r % (32 / k) == 0 ? 0 : 1);
            }
            Due.is("the ends of the first span", heapsOf(k, 32 / k - 1, 0), 1);
            Due.is("the ends of the last span", heapsOf(k, 31, 32 - 32 / k), 1);
        }
        int[] wrong = {Integer.MIN_VALUE, -8, -1, 0, 3, 5, 6, 7, 9, 16, 32, Integer.MAX_VALUE};
        for (int k : wrong) {
            Due.is("heaps by " + k, heapsOf(k, 1, 0), BAD);
        }
        TurnPort x = new TurnPort();
        Rows.put(x, 0, 0, 9, 8, 40, 7, 6, 5);
        Due.is("the first two", x.heaps(0, 0, 0, 2, 1), 1);
        Due.is("the last three", x.heaps(0, 0, 3, 3, 1), 3);
        Due.is("one is not 0 .. 31", x.heaps(0, 0, 2, 3, 1), TurnPort.NOT);
        Due.is("the last one of those", x.heaps(0, 0, 0, 3, 1), TurnPort.NOT);
        Due.is("four of three", x.heaps(0, 0, 3, 4, 1), TurnPort.INDEX);
        Due.is("ahead of the first", x.heaps(0, 0, -1, 1, 1), TurnPort.INDEX);
        Due.is("behind the last", x.heaps(0, 0, 6, 1, 1), TurnPort.INDEX);
        Due.is("as ints", x.heaps(0, 2, 0, 2, 1), TurnPort.CAST);
        Due.is("of nothing", x.heaps(1, 0, 0, 2, 1), TurnPort.NULL);
        Span.bounds("heaps, sheet", 0, 3, BAD, s -> x.heaps(s, 0, 0, 2, 1));
        Span.bounds("heaps, lane", 0, 2, BAD, lane -> x.heaps(0, lane, 0, 2, 1));
    }

    private static void cut() {
        Said.says("`int cut(int sheet, int lane, int i, int n, int k)`: OUT OF ORDER by THE BEST CUT for k HEAPS (1 .. 8). "
            + "BAD; NULL; CAST; INDEX; NOT.");
        Span.bounds("cut, k", 1, 8, BAD, k -> cutOf(k, 1, 0));
        TurnPort x = new TurnPort();
        Rows.put(x, 3, 1, 9, 8, -1, 7, 6, 5);
        Due.is("the first two", x.cut(3, 1, 0, 2, 1), 1);
        Due.is("the last three", x.cut(3, 1, 3, 3, 2), 1);
        Due.is("one is not 0 .. 31", x.cut(3, 1, 2, 3, 1), TurnPort.NOT);
        Due.is("the last one of those", x.cut(3, 1, 0, 3, 1), TurnPort.NOT);
        Due.is("four of three", x.cut(3, 1, 3, 4, 1), TurnPort.INDEX);
        Due.is("ahead of the first", x.cut(3, 1, -1, 1, 1), TurnPort.INDEX);
        Due.is("behind the last", x.cut(3, 1, 6, 1, 1), TurnPort.INDEX);
        Due.is("as bytes", x.cut(3, 0, 0, 2, 1), TurnPort.CAST);
        Due.is("of nothing", x.cut(1, 1, 0, 2, 1), TurnPort.NULL);
        Span.bounds("cut, sheet", 0, 3, BAD, s -> x.cut(s, 1, 0, 2, 1));
        Span.bounds("cut, lane", 0, 2, BAD, lane -> x.cut(3, lane, 0, 2, 1));
    }
}
