/** Terms, section 1, streams and words; promises 1 to 4 and 7. */
final class WordEdges {
    private static final int BAD = TurnPort.BAD, NONE = TurnPort.NONE, FULL = TurnPort.FULL;

    private WordEdges() {
    }

    static void run() {
        newObject();
        streams();
        settings();
        whatSet();
        wordNumbers();
        lengths();
        ticksOfWords();
        dues();
        numbersAmongWords();
        ends();
        latestEndAndVirtual();
        divisions();
        gates();
        latestGates();
        asToldWhenItComes();
        come();
        comesHowMany();
        comesWrong();
        comesFull();
        told();
    }

    private static void newObject() {
        Said.says("`TurnPort()`: NOW 0, nothing waits.");
        TurnPort x = new TurnPort();
        Due.is("NOW 0", x.count(6), 0);
        Due.is("nothing waits", x.count(1), 0);
        Due.is("nothing is next", x.next(), NONE);
        Due.is("a tick", x.ticks(1), 1);
        Due.is("sends nothing", x.sent(0), NONE);
    }

    private static void streams() {
        Said.says("==== 1 STREAMS 0 .. 7 have");
        Span.bounds("set, stream", 0, 7, BAD, s -> new TurnPort().set(s, 0, 1));
        Span.bounds("come, stream", 0, 7, BAD, s -> new TurnPort().come(s, 1));
        Span.bounds("promise, stream", 0, 7, BAD, s -> new TurnPort().promise(s, 1));
        Span.bounds("taken, stream", 0, 7, BAD, s -> new TurnPort().taken(s));
        Span.bounds("lags, stream", 0, 7, -100001, s -> new TurnPort().lags(s));
        Span.bounds("comes, stream", 0, 7, TurnPort.NOT, s -> {
            TurnPort x = new TurnPort();
            Rows.put(x, 0, 2, s, 1);
            return x.comes(0, 2, 0, 1);
        });
    }

    private static void settings() {
        Said.says("a CLASS (0 .. 9; 0 at first),");
        setting("CLASS", 0, 0, 9, 0);
        Due.is("CLASS 9 counts", rankWith(0, 9, "c"), 9);
        Due.is("CLASS 0 counts", rankWith(0, 0, "c"), 0);
        Said.says("a SHARE (1 .. 16; 1 at first),");
        setting("SHARE", 1, 1, 16, 1);
        Due.is("SHARE 16 counts", rankWith(1, 16, "f"), 10);
        Due.is("SHARE 1 counts", rankWith(1, 1, "f"), 160);
        Said.says("a DUE (0 .. 999; 100 at first),");
        setting("DUE", 2, 0, 999, 100);
        Due.is("DUE 999 counts", rankWith(2, 999, "d"), 999);
        Due.is("DUE 0 counts", rankWith(2, 0, "d"), 0);
        Said.says("a GAP (0 .. 99; 0 at first),");
        setting("GAP", 3, 0, 99, 0);
        Due.is("GAP 99 counts", secondTold(3, 99, 5), 99);
        Due.is("GAP 0 counts", secondTold(3, 0, 5), 0);
        Said.says("a HOUSE (0 .. 3; 0 at first),");
        setting("HOUSE", 4, 0, 3, 0);
        Due.is("HOUSE 3 counts", secondTold(4, 3, 9), 3);
        Due.is("HOUSE 0 counts", secondTold(4, 0, 9), 0);
        Said.says("a BURST (0 .. 999; 0 at first),");
        setting("BURST", 5, 0, 999, 0);
        Due.is("BURST 999 counts", promiseWith(5, 999), 1000);
        Due.is("BURST 0 counts", promiseWith(5, 0), 1);
        Said.says("a RATE (0 .. 16; 0 at first).");
        setting("RATE", 6, 0, 16, 0);
        Due.is("RATE 16 leaves all to its own class", promiseWith(6, 16), 1);
        Due.is("RATE 0 counts", promiseWith(6, 0), 1);
    }

    private static void setting(String name, int what, int least, int most, int first) {
        for (int s = 0; s < 8; s++) {
            Due.is(name + " of stream " + s + " at first", new TurnPort().set(s, what, most), first);
        }
        Span.bounds(name, least, most, BAD, v -> new TurnPort().set(3, what, v));
        TurnPort x = new TurnPort();
        int[][] calls = {{most, first}, {most + 1, BAD}, {least, most}, {least - 1, BAD}, {first, least}, {least, first}};
        for (int[] c : calls) {
            Due.is(name + " becomes " + c[0], x.set(6, what, c[0]), c[1]);
        }
        for (int s = 0; s < 8; s++) {
            Due.is(name + " of stream " + s, x.set(s, what, most), s == 6 ? least : first);
        }
    }

    private static long rankWith(int what, int v, String rule) {
        TurnPort x = new TurnPort();
        x.set(5, what, v);
        x.come(5, 10);
        Tapes.rule(x, 0, rule);
        return x.rank(0, 0);
    }

    private static int secondTold(int what, int v, int which) {
        TurnPort x = new TurnPort();
        x.set(5, what, v);
        x.come(5, 10);
        x.come(5, 10);
        return x.told(1, which);
    }

    private static int promiseWith(int what, int v) {
        TurnPort x = new TurnPort();
        x.set(5, what, v);
        return x.promise(5, 1);
    }

    private static void whatSet() {
        Said.says("`int set(int stream, int what, int v)`: CLASS (0), SHARE (1), DUE (2), GAP (3), HOUSE (4), "
            + "BURST (5), RATE (6) of a STREAM: what it was. BAD.");
        Span.bounds("set, what", 0, 6, BAD, what -> new TurnPort().set(0, what, 1));
        TurnPort x = new TurnPort();
        for (int what = 0; what < 7; what++) {
            x.set(1, what, 2);
        }
        for (int what = 0; what < 7; what++) {
            Due.is("each of the seven is kept alone: " + what, x.set(1, what, 3), 2);
        }
    }

    private static void wordNumbers() {
        Said.says("A WORD (numbers as they come, 0 .. 999; then none comes: FULL)");
        TurnPort x = crowd(996);
        for (int number = 996; number < 1000; number++) {
            Due.is("the next number", x.come(7, 1), number);
        }
        Due.is("then none comes", x.come(7, 1), FULL);
        Due.is("1000 came", x.count(0), 1000);
        Due.is("word 999 is there", x.told(999, 1), 7);
        Due.is("no word 1000", x.told(1000, 1), BAD);
        x.ticks(100);
        Due.is("none comes when there is room", x.come(7, 1), FULL);
        Due.is("1000 came still", x.count(0), 1000);
    }

    /** How many words came (a multiple of 12), all of stream 0, length 1, tick 0. */
    private static TurnPort crowd(int words) {
        TurnPort x = new TurnPort();
        Rows.put(x, 3, 0, 0, 1, 0, 1, 0, 1, 0, 1, 0, 1, 0, 1, 0, 1, 0, 1, 0, 1, 0, 1, 0, 1, 0, 1);
        for (int first = 0; first < words; first += 12) {
            Due.is("twelve come", x.comes(3, 0, 0, 12), first);
        }
        return x;
    }

    private static void lengths() {
        Said.says("is of a STREAM, of a LENGTH (1 .. 99),");
        Span.bounds("come, length", 1, 99, BAD, l -> new TurnPort().come(0, l));
        Span.bounds("comes, length", 1, 99, TurnPort.NOT, l -> {
            TurnPort x = new TurnPort();
            Rows.put(x, 0, 2, 0, l);
            return x.comes(0, 2, 0, 1);
        });
        TurnPort x = new TurnPort();
        x.come(0, 1);
        x.come(7, 99);
        Due.is("stream 0", x.told(0, 1), 0);
        Due.is("stream 7", x.told(1, 1), 7);
        Due.is("length 1", x.told(0, 2), 1);
        Due.is("length 99", x.told(1, 2), 99);
    }

    /** NOW is 99999, and nothing came. */
    private static TurnPort atTheLastTick() {
        TurnPort x = new TurnPort();
        for (int i = 0; i < 199; i++) {
            x.ticks(500);
        }
        x.ticks(499);
        return x;
    }

    private static void ticksOfWords() {
        Said.says("comes at a TICK, with: CLASS c, LENGTH l, TICK t,");
        TurnPort x = atTheLastTick();
        x.set(0, 0, 8);
        Due.is("a word comes at the last tick", x.come(0, 42), 0);
        Due.is("its tick", x.told(0, 3), 99999);
        Due.is("t", x.rank(0, 0), 99999);
        Tapes.rule(x, 0, "c");
        Due.is("c", x.rank(0, 0), 8);
        Tapes.rule(x, 0, "l");
        Due.is("l", x.rank(0, 0), 42);
        TurnPort y = new TurnPort();
        y.come(0, 1);
        Due.is("a word comes at tick 0", y.told(0, 3), 0);
    }

    private static void dues() {
        Said.says("its TICK and DUE d,");
        TurnPort x = atTheLastTick();
        x.set(0, 2, 999);
        x.set(1, 2, 0);
        x.come(0, 1);
        x.come(1, 1);
        x.come(2, 1);
        Due.is("DUE 999 at the last tick", x.told(0, 6), 100998);
        Due.is("DUE 0", x.told(1, 6), 99999);
        Due.is("DUE as it is at first", x.told(2, 6), 100099);
        Tapes.rule(x, 0, "d");
        Due.is("d", x.rank(0, 0), 100998);
    }

    private static void numbersAmongWords() {
        Said.says("its number among its STREAM's WORDS n (0 ..),");
        TurnPort x = new TurnPort();
        x.full(0, 1);
        int[][] words = {{4, 0}, {5, 0}, {4, 1}, {4, 2}, {5, 1}, {0, 0}};
        for (int i = 0; i < words.length; i++) {
            x.come(words[i][0], 1);
            Due.is("n of word " + i, x.told(i, 7), words[i][1]);
        }
        Tapes.rule(x, 0, "n");
        Due.is("n in a rule", x.rank(3, 0), 2);
        Due.is("the last n that can be", crowd(996).told(995, 7), 995);
    }

    /** Stream 1's latest END is 10 when a word of END virtual has left; END of its next one, of 5. */
    private static int endBehind(int virtual) {
        TurnPort x = new TurnPort();
        x.set(0, 1, 16);
        x.set(1, 1, 16);
        x.come(0, virtual);
        x.come(1, 10);
        x.ticks(virtual);
        Due.is("VIRTUAL", x.count(7), virtual);
        return x.told(x.come(1, 5), 4);
    }

    private static void ends() {
        Said.says("END f: the greater one of its STREAM's latest END and VIRTUAL (both 0 at first), and 16 LENGTH by SHARE.");
        Due.is("VIRTUAL below the latest END", endBehind(9), 15);
        Due.is("VIRTUAL like the latest END", endBehind(10), 15);
        Due.is("VIRTUAL above the latest END", endBehind(11), 16);
        TurnPort x = new TurnPort();
        Due.is("VIRTUAL 0 at first", x.count(7), 0);
        x.come(0, 1);
        Due.is("the latest END 0 at first", x.told(0, 4), 16);
        x.come(1, 99);
        Due.is("the greatest step", x.told(1, 4), 1584);
        x.set(2, 1, 16);
        x.come(2, 1);
        Due.is("the least step", x.told(2, 4), 1);
        Tapes.rule(x, 0, "f");
        Due.is("f", x.rank(1, 0), 1584);
    }

    private static void latestEndAndVirtual() {
        Said.says("(That is its STREAM's latest END then; VIRTUAL is END of the WORD that left the latest.)");
        TurnPort x = new TurnPort();
        x.come(0, 1);
        x.come(0, 2);
        x.come(1, 1);
        Due.is("16 behind 0", x.told(0, 4), 16);
        Due.is("32 behind 16", x.told(1, 4), 48);
        x.ticks(2);
        Due.is("the first one's while the second is sent", x.count(7), 16);
        x.ticks(1);
        Due.is("the second one's when it has left", x.count(7), 48);
        x.ticks(1);
        Due.is("the third one's, though it is less", x.count(7), 16);
        x.ticks(50);
        Due.is("it stays when nothing is sent", x.count(7), 16);
    }

    private static int endOf(int length, int share) {
        TurnPort x = new TurnPort();
        x.set(0, 1, share);
        x.come(0, length);
        return x.told(0, 4);
    }

    private static void divisions() {
        Said.says("Divisions are cut toward 0.");
        Due.is("224 by 15 is 14 and 14 of 15", endOf(14, 15), 14);
        Due.is("240 by 15 is 16", endOf(15, 15), 16);
        Due.is("256 by 15 is 17 and 1 of 15", endOf(16, 15), 17);
        Due.is("16 by 7", endOf(1, 7), 2);
        Due.is("1584 by 13", endOf(99, 13), 121);
    }

    /** GATE of a stream's second word, GAP 5, the first one's GATE 3. */
    private static int gateAt(int tick) {
        TurnPort x = new TurnPort();
        x.set(0, 3, 5);
        x.ticks(3);
        x.come(0, 1);
        Due.is("the first one's GATE is its TICK", x.told(0, 5), 3);
        x.ticks(tick - 3);
        return x.told(x.come(0, 1), 5);
    }

    private static void gates() {
        Said.says("GATE: the greater one of TICK and its STREAM's latest GATE and GAP (its TICK for the first one);");
        Due.is("TICK below GATE and GAP", gateAt(7), 8);
        Due.is("TICK like GATE and GAP", gateAt(8), 8);
        Due.is("TICK above GATE and GAP", gateAt(9), 9);
        TurnPort x = new TurnPort();
        x.set(0, 3, 99);
        x.set(1, 3, 99);
        x.come(0, 1);
        Due.is("the first one at tick 0, GAP 99", x.told(0, 5), 0);
        x.come(1, 1);
        Due.is("each stream has a first one", x.told(1, 5), 0);
        x.come(0, 1);
        Due.is("the second one, GAP 99", x.told(2, 5), 99);
    }

    private static void latestGates() {
        Said.says("that is the STREAM's latest GATE then.");
        TurnPort x = new TurnPort();
        x.set(0, 3, 5);
        int[] due = {0, 5, 10};
        for (int i = 0; i < 3; i++) {
            Due.is("gate behind gate", x.told(x.come(0, 1), 5), due[i]);
        }
        x.ticks(17);
        Due.is("a tick that is greater", x.told(x.come(0, 1), 5), 17);
        Due.is("is the latest gate then", x.told(x.come(0, 1), 5), 22);
        x.set(0, 3, 0);
        Due.is("GAP 0: like the latest", x.told(x.come(0, 1), 5), 22);
    }

    private static void asToldWhenItComes() {
        Said.says("SHARE, CLASS and all others are as told when it comes.");
        TurnPort x = new TurnPort();
        int[] at = {7, 4, 50, 6, 2};
        for (int what = 0; what < at.length; what++) {
            x.set(0, what, at[what]);
        }
        x.come(0, 8);
        x.come(0, 8);
        int[] then = {1, 16, 900, 99, 1};
        for (int what = 0; what < then.length; what++) {
            x.set(0, what, then[what]);
        }
        int[] due = {0, 0, 8, 0, 64, 6, 50, 1, NONE, 2};
        for (int what = 0; what < due.length; what++) {
            Due.is("told " + what, x.told(1, what), due[what]);
        }
        Tapes.rule(x, 0, "c");
        Due.is("c", x.rank(1, 0), 7);
        x.come(0, 8);
        int[] next = {0, 0, 8, 0, 72, 105, 900, 2, NONE, 1};
        for (int what = 0; what < next.length; what++) {
            Due.is("the next one, told " + what, x.told(2, what), next[what]);
        }
        Due.is("the next one, c", x.rank(2, 0), 1);
    }

    private static void come() {
        Said.says("`int come(int stream, int length)`: A WORD comes: its number (also DROPPED). BAD; FULL.");
        TurnPort x = new TurnPort();
        x.full(0, 1);
        Due.is("it waits", x.come(0, 1), 0);
        Due.is("it is dropped", x.come(0, 1), 1);
        Due.is("so it is", x.told(1, 0), 3);
        Due.is("BAD takes no number", x.come(0, 0), BAD);
        Due.is("nor does this", x.come(8, 1), BAD);
        Due.is("the next number", x.come(0, 1), 2);
    }

    private static void comesHowMany() {
        Said.says("`int comes(int sheet, int lane, int i, int n)`: n WORDS (0 .. 12) come, STREAM and LENGTH each, "
            + "from a SHEET, taken as a row of a LANE, from item i on: the number of the first (NONE: n 0).");
        Span.bounds("comes, n", 0, 12, BAD, n -> crowd(0).comes(3, 0, 0, n));
        TurnPort x = crowd(0);
        Due.is("none", x.comes(3, 0, 0, 0), NONE);
        Due.is("none came", x.count(0), 0);
        Due.is("one", x.comes(3, 0, 22, 1), 0);
        Due.is("one came", x.count(0), 1);
        Due.is("twelve", x.comes(3, 0, 0, 12), 1);
        Due.is("thirteen came", x.count(0), 13);
        TurnPort y = new TurnPort();
        Rows.put(y, 1, 1, 9, 7, 99, 3, 1, 5);
        Due.is("two from item 1 on", y.comes(1, 1, 1, 2), 0);
        int[][] due = {{7, 99}, {3, 1}};
        for (int w = 0; w < 2; w++) {
            Due.is("stream", y.told(w, 1), due[w][0]);
            Due.is("length", y.told(w, 2), due[w][1]);
        }
        y.full(0, 1);
        y.full(1, 1);
        Tapes.rule(y, 0, "-n");
        Due.is("each one comes as by itself", y.comes(1, 1, 1, 2), 2);
        int[] states = {3, 3, 0, 0};
        for (int w = 0; w < 4; w++) {
            Due.is("word " + w + " is", y.told(w, 0), states[w]);
        }
    }

    private static int comesOf(int... row) {
        TurnPort x = new TurnPort();
        Rows.put(x, 2, 2, row);
        int answer = x.comes(2, 2, 0, row.length / 2);
        Due.is("what came", x.count(0), answer < 0 ? 0 : row.length / 2);
        return answer;
    }

    private static void comesWrong() {
        Said.says("BAD; NULL; CAST; INDEX; NOT: one is not as told; FULL: not all have numbers.");
        Due.is("all are as told", comesOf(0, 1, 7, 99), 0);
        int[][] wrong = {{-1, 1, 7, 99}, {8, 1, 7, 99}, {0, 0, 7, 99}, {0, 100, 7, 99},
            {0, 1, -1, 99}, {0, 1, 8, 99}, {0, 1, 7, 0}, {0, 1, 7, 100}, {0, 1, 7, -99}};
        for (int[] row : wrong) {
            Due.is("one is not as told", comesOf(row), TurnPort.NOT);
        }
        TurnPort x = new TurnPort();
        Rows.put(x, 0, 0, 0, 1, 1);
        Due.is("the last two items", x.comes(0, 0, 1, 1), 0);
        Due.is("one item alone", x.comes(0, 0, 2, 1), TurnPort.INDEX);
        Due.is("four of three", x.comes(0, 0, 0, 2), TurnPort.INDEX);
        Due.is("ahead of the first", x.comes(0, 0, -1, 1), TurnPort.INDEX);
        Due.is("none at the end", x.comes(0, 0, 3, 0), NONE);
        Due.is("none beyond the end", x.comes(0, 0, 4, 0), TurnPort.INDEX);
        Due.is("none ahead of the first", x.comes(0, 0, -1, 0), TurnPort.INDEX);
        Due.is("as shorts", x.comes(0, 1, 1, 1), TurnPort.CAST);
        Due.is("a sheet that holds nothing", x.comes(1, 0, 1, 1), TurnPort.NULL);
        Span.bounds("comes, sheet", 0, 3, BAD, s -> x.comes(s, 0, 0, 1));
        Span.bounds("comes, lane", 0, 2, BAD, lane -> x.comes(0, lane, 0, 1));
    }

    private static void comesFull() {
        TurnPort x = crowd(984);
        for (int i = 0; i < 4; i++) {
            x.come(0, 1);
        }
        Due.is("988 and 12 are 1000", x.comes(3, 0, 0, 12), 988);
        Due.is("none has a number left", x.comes(3, 0, 0, 1), FULL);
        Due.is("none needs one", x.comes(3, 0, 0, 0), NONE);
        TurnPort y = crowd(984);
        for (int i = 0; i < 5; i++) {
            y.come(0, 1);
        }
        Due.is("989 and 12 are too many", y.comes(3, 0, 0, 12), FULL);
        Due.is("none of the twelve came", y.count(0), 989);
        Due.is("989 and 11 are 1000", y.comes(3, 0, 0, 11), 989);
    }

    private static void told() {
        Said.says("`int told(int word, int what)`: Of a WORD: 0 how it is (0 .. 3), 1 STREAM, 2 LENGTH, 3 TICK, 4 END, "
            + "5 GATE, 6 d, 7 n, 8 the TICK from which it is SENT (NONE: it was not), 9 its HOUSE. BAD.");
        TurnPort x = new TurnPort();
        Due.is("no word yet", x.told(0, 0), BAD);
        x.set(6, 1, 8);
        x.set(6, 4, 3);
        x.come(6, 2);
        x.come(6, 3);
        x.come(6, 4);
        x.full(0, 1);
        x.come(6, 5);
        x.ticks(3);
        int[][] due = {
            {2, 6, 2, 0, 4, 0, 100, 0, 0, 3},
            {1, 6, 3, 0, 10, 0, 100, 1, 2, 3},
            {0, 6, 4, 0, 18, 0, 100, 2, NONE, 3},
            {3, 6, 5, 0, 28, 0, 100, 3, NONE, 3}};
        for (int w = 0; w < due.length; w++) {
            for (int what = 0; what < 10; what++) {
                Due.is("told " + w + " " + what, x.told(w, what), due[w][what]);
            }
        }
        Span.bounds("told, word", 0, 3, BAD, w -> x.told(w, 0));
        Span.bounds("told, what", 0, 9, BAD, what -> x.told(0, what));
    }
}
