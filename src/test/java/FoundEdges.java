/** Terms, section 3, rules found and best orders; promises 21 and 22. */
final class FoundEdges {
    private static final int BAD = TurnPort.BAD, NONE = TurnPort.NONE;

    private FoundEdges() {
    }

    static void run() {
        howManyWords();
        numbersOneToFour();
        lettersFound();
        plusAlone();
        ranksDoNotFall();
        oneTermAheadOfTwo();
        firstTermCountsMost();
        found();
        leastSum();
        lateIfAboveNought();
        fromNow();
        firstByNumbers();
        order();
    }

    /** Words of class, length and DUE, all of tick 0, with the told order in sheet 0. */
    private static TurnPort words(int[][] told, int... row) {
        TurnPort x = new TurnPort();
        for (int[] w : told) {
            x.set(0, 0, w[0]);
            x.set(0, 2, w[2]);
            x.come(0, w[1]);
        }
        Rows.put(x, 0, 2, row);
        return x;
    }

    private static int foundOf(int[][] told, int... row) {
        return words(told, row).found(0, 2, 0, row.length);
    }

    private static void howManyWords() {
        Said.says("FOUND: of RULES of one or two TERMS");
        int[][] told = new int[9][];
        int[] row = new int[9];
        for (int i = 0; i < 9; i++) {
            told[i] = new int[]{0, 9 - i, 100};
            row[i] = 8 - i;
        }
        TurnPort x = words(told, row);
        Span.bounds("found, n", 2, 8, BAD, n -> x.found(0, 2, 0, n));
        Due.is("two by length", x.found(0, 2, 0, 2), 12);
        Due.is("eight by length", x.found(0, 2, 1, 8), 12);
        Due.is("one term", foundOf(new int[][]{{1, 9, 9}, {2, 8, 8}}, 0, 1), 11);
        Due.is("two terms", foundOf(new int[][]{{0, 9, 700}, {0, 5, 900}, {3, 3, 800}}, 1, 2, 0), 1112);
        Due.is("three would be needed", foundOf(new int[][]{{4, 4, 102}, {0, 5, 103}, {1, 1, 104}, {2, 2, 100}}, 3, 2, 1, 0), NONE);
    }

    /** Told 1, 2, 0: c is 0 1 0, l is most 1 9, d falls: of c and l a rule needs (most - 1) times c. */
    private static int timesClass(int most) {
        return foundOf(new int[][]{{0, 9 + most, 700}, {0, most, 900}, {1, 1, 800}}, 1, 2, 0);
    }

    /** Told 1, 2, 0: c is most 0 9, l is 1 2 1, d falls: a rule needs most times l. */
    private static int timesLength(int most) {
        return foundOf(new int[][]{{9, 1, 700}, {most, 1, 900}, {0, 2, 800}}, 1, 2, 0);
    }

    private static void numbersOneToFour() {
        Said.says("(numbers 1 .. 4,");
        for (int n = 1; n <= 4; n++) {
            Due.is(n + "c+1l", timesClass(n + 1), 100 * (10 * n + 1) + 12);
            Due.is("1c+" + n + "l", timesLength(n), 1100 + 10 * n + 2);
        }
        Due.is("1c+4d, the last number of the last letter", foundOf(new int[][]{{9, 9, 701}, {4, 9, 700}, {0, 1, 701}}, 1, 2, 0), 1144);
        Due.is("5d would be needed", foundOf(new int[][]{{9, 9, 701}, {5, 9, 700}, {0, 1, 701}}, 1, 2, 0), NONE);
        Due.is("5c would be needed", timesClass(6), NONE);
        Due.is("5l would be needed", timesLength(5), NONE);
    }

    private static void lettersFound() {
        Said.says("c l t d,");
        int[][] like = {{5, 5, 100}, {5, 5, 100}};
        Due.is("c", foundOf(new int[][]{{5, 4, 50}, {4, 5, 100}}, 1, 0), 11);
        Due.is("l", foundOf(new int[][]{{5, 5, 50}, {5, 4, 100}}, 1, 0), 12);
        Due.is("d", foundOf(new int[][]{{4, 4, 100}, {5, 5, 99}}, 1, 0), 14);
        Due.is("none of them", foundOf(like, 1, 0), NONE);
        TurnPort x = words(new int[][]{{5, 5, 100}}, 0, 1);
        x.ticks(1);
        x.set(0, 0, 4);
        x.set(0, 2, 98);
        x.come(0, 4);
        Due.is("t", x.found(0, 2, 0, 2), 13);
        TurnPort y = new TurnPort();
        y.set(1, 0, 1);
        y.set(1, 1, 16);
        y.set(1, 2, 101);
        y.come(0, 1);
        y.come(0, 1);
        y.come(1, 2);
        Rows.put(y, 0, 2, 2, 1);
        Due.is("n rises", y.told(1, 7) - y.told(2, 7), 1);
        Due.is("f rises", y.told(1, 4) - y.told(2, 4), 30);
        Due.is("but neither n nor f is looked for", y.found(0, 2, 0, 2), NONE);
    }

    private static void plusAlone() {
        Said.says("+ alone):");
        Due.is("-c would do", foundOf(new int[][]{{4, 5, 100}, {5, 5, 100}}, 1, 0), NONE);
        Due.is("-l would do", foundOf(new int[][]{{5, 4, 100}, {5, 5, 100}}, 1, 0), NONE);
        Due.is("-d would do", foundOf(new int[][]{{5, 5, 99}, {5, 5, 100}}, 1, 0), NONE);
    }

    private static void ranksDoNotFall() {
        Said.says("for given WORDS (2 to 8 WORDS that came) in a told order the first by which RANKS do not fall along it, "
            + "and of like ones the first to come is first:");
        int[][] told = {{3, 5, 50}, {3, 4, 60}, {4, 6, 40}};
        Due.is("they rise, like ones as they came", foundOf(told, 0, 1, 2), 11);
        Due.is("like ones the other way: by l", foundOf(told, 1, 0, 2), 12);
        Due.is("they fall at the end", foundOf(told, 0, 2, 1), NONE);
        Due.is("they fall at the beginning: by d", foundOf(told, 2, 0, 1), 14);
        int[][] like = {{1, 1, 100}, {1, 1, 100}, {1, 1, 100}};
        Due.is("all like, as they came", foundOf(like, 0, 1, 2), 11);
        Due.is("all like, but not as they came", foundOf(like, 0, 2, 1), NONE);
        Due.is("some of them, as they came", foundOf(like, 0, 2), 11);
        TurnPort x = words(like, 0, 1, 2, 3);
        x.full(0, 1);
        x.come(0, 1);
        x.ticks(2);
        Due.is("one is dropped", x.told(3, 0), 3);
        Due.is("words that left, wait, were dropped: all came", x.found(0, 2, 0, 4), 11);
    }

    private static void oneTermAheadOfTwo() {
        Said.says("by one TERM ahead of two; c l t d in this order, the lesser number first");
        Due.is("d alone ahead of c and l", foundOf(new int[][]{{0, 9, 800}, {0, 5, 700}, {3, 3, 750}}, 1, 2, 0), 14);
        Due.is("c ahead of l", foundOf(new int[][]{{2, 2, 2}, {1, 1, 1}}, 1, 0), 11);
        Due.is("l ahead of d", foundOf(new int[][]{{1, 2, 2}, {2, 1, 1}}, 1, 0), 12);
        TurnPort x = words(new int[][]{{1, 2, 100}}, 0, 1);
        x.ticks(1);
        x.set(0, 0, 0);
        x.come(0, 1);
        Due.is("t ahead of d", x.found(0, 2, 0, 2), 13);
        TurnPort y = words(new int[][]{{0, 2, 100}}, 0, 1);
        y.ticks(1);
        y.come(0, 3);
        Due.is("c ahead of l and t", y.found(0, 2, 0, 2), 11);
        TurnPort z = words(new int[][]{{1, 2, 100}}, 0, 1);
        z.ticks(1);
        z.set(0, 0, 0);
        z.come(0, 3);
        Due.is("l ahead of t", z.found(0, 2, 0, 2), 12);
        Due.is("1c+1l ahead of 2c+1l", timesClass(2), 1112);
        Due.is("1c+1l ahead of 1c+2l", timesLength(1), 1112);
    }

    private static void firstTermCountsMost() {
        Said.says("(the first TERM counts most).");
        Due.is("1c+1d ahead of 2c+1l", foundOf(new int[][]{{4, 1, 9}, {2, 4, 10}, {0, 9, 14}}, 1, 0, 2), 1114);
        Due.is("2c+1l, as no 1c does", foundOf(new int[][]{{4, 1, 800}, {2, 4, 900}, {0, 9, 700}}, 1, 0, 2), 2112);
        Due.is("1l+1d, as no c and no term alone does",
            foundOf(new int[][]{{0, 4, 703}, {5, 1, 704}, {9, 3, 701}}, 2, 1, 0), 1214);
    }

    private static void found() {
        Said.says("`int found(int sheet, int lane, int i, int n)`: FOUND: WORDS in a told order are n items (2 .. 8) of a SHEET, "
            + "taken as a row of a LANE, from item i on: TERMS as digits (the number, then 1 c, 2 l, 3 t, 4 d; "
            + "the second TERM behind). BAD; NULL; CAST; INDEX; NOT: one did not come, one twice; NONE.");
        TurnPort x = words(new int[][]{{0, 1, 9}, {0, 2, 9}, {0, 3, 9}}, 0, 1, 2, 3, -1, 1, 0, 1);
        Due.is("from item 0 on", x.found(0, 2, 0, 3), 11);
        Due.is("the last two", x.found(0, 2, 6, 2), 11);
        Due.is("falling by all", x.found(0, 2, 5, 2), NONE);
        Due.is("word 3 did not come", x.found(0, 2, 2, 2), TurnPort.NOT);
        Due.is("word -1 did not come", x.found(0, 2, 4, 2), TurnPort.NOT);
        Due.is("word 1 twice", x.found(0, 2, 5, 3), TurnPort.NOT);
        Due.is("three of two", x.found(0, 2, 6, 3), TurnPort.INDEX);
        Due.is("ahead of the first", x.found(0, 2, -1, 2), TurnPort.INDEX);
        Due.is("behind the last", x.found(0, 2, 8, 2), TurnPort.INDEX);
        Due.is("as bytes", x.found(0, 0, 0, 2), TurnPort.CAST);
        Due.is("of nothing", x.found(1, 2, 0, 2), TurnPort.NULL);
        Span.bounds("found, sheet", 0, 3, BAD, s -> x.found(s, 2, 0, 2));
        Span.bounds("found, lane", 0, 2, BAD, lane -> x.found(0, lane, 0, 2));
        x.come(0, 4);
        Due.is("word 3 came", x.found(0, 2, 2, 2), 11);
    }

    private static void orderIs(String name, TurnPort x, int sum, int... due) {
        Due.is(name + ": the sum", x.order(0, 2, 0, due.length, -1), sum);
        for (int i = 0; i < due.length; i++) {
            Due.is(name + ": place " + i, x.order(0, 2, 0, due.length, i), due[i]);
        }
    }

    private static void leastSum() {
        Said.says("THE BEST ORDER of 1 to 6 WORDS that wait, sent one behind the other from NOW (no GATES): "
            + "that of the least sum of what they are LATE");
        orderIs("the shortest first", words(new int[][]{{0, 5, 0}, {0, 3, 0}, {0, 1, 0}}, 0, 1, 2), 14, 2, 1, 0);
        orderIs("one", words(new int[][]{{0, 5, 2}}, 0), 3, 0);
        orderIs("six", words(new int[][]{{0, 6, 0}, {0, 5, 0}, {0, 4, 0}, {0, 3, 0}, {0, 2, 0}, {0, 1, 0}}, 5, 4, 3, 2, 1, 0),
            56, 5, 4, 3, 2, 1, 0);
        orderIs("the latest due last", words(new int[][]{{0, 9, 20}, {0, 9, 18}, {0, 9, 9}}, 0, 1, 2), 7, 2, 1, 0);
        TurnPort x = words(new int[][]{{0, 1, 0}, {0, 1, 0}, {0, 1, 0}, {0, 1, 0}, {0, 1, 0}, {0, 1, 0}, {0, 1, 0}}, 6, 5, 4, 3, 2, 1, 0);
        int[] sums = {21, 15, 10, 6, 3, 1};
        for (int n = 6; n >= 1; n--) {
            Due.is("first six, then ever fewer: " + n, x.order(0, 2, 0, n, -1), sums[6 - n]);
        }
        Span.bounds("order, n", 1, 6, BAD, n -> x.order(0, 2, 0, n, -1));
    }

    private static void lateIfAboveNought() {
        Said.says("(if above 0);");
        orderIs("left at its due", words(new int[][]{{0, 5, 5}}, 0), 0, 0);
        orderIs("left one behind its due", words(new int[][]{{0, 5, 4}}, 0), 1, 0);
        orderIs("left far ahead of its due", words(new int[][]{{0, 5, 999}}, 0), 0, 0);
        orderIs("one early is no help for one late", words(new int[][]{{0, 5, 999}, {0, 7, 4}}, 0, 1), 3, 1, 0);
    }

    private static void fromNow() {
        TurnPort x = new TurnPort();
        x.set(0, 3, 99);
        x.set(0, 2, 10);
        x.come(0, 30);
        x.come(0, 4);
        Rows.put(x, 0, 2, 1);
        orderIs("its GATE is 99", x, 0, 1);
        x.ticks(6);
        orderIs("from 6 on it leaves at 10, though another is sent", x, 0, 1);
        x.ticks(1);
        orderIs("from 7 on it leaves at 11", x, 1, 1);
    }

    private static void firstByNumbers() {
        Said.says("of like ones the first by numbers.");
        orderIs("none is late", words(new int[][]{{0, 2, 99}, {0, 1, 50}, {0, 3, 80}}, 2, 1, 0), 0, 0, 1, 2);
        orderIs("like words", words(new int[][]{{0, 2, 1}, {0, 2, 1}, {0, 2, 1}}, 1, 2, 0), 9, 0, 1, 2);
        orderIs("0 first and then 2 by need",
            words(new int[][]{{0, 1, 99}, {0, 4, 99}, {0, 4, 5}}, 2, 1, 0), 0, 0, 2, 1);
        TurnPort x = words(new int[][]{{0, 1, 9}, {0, 1, 9}, {0, 1, 9}}, 2, 1);
        Due.is("of those that are given", x.order(0, 2, 0, 2, 0), 1);
        Due.is("and the other", x.order(0, 2, 0, 2, 1), 2);
    }

    private static void order() {
        Said.says("`int order(int sheet, int lane, int i, int n, int what)`: THE BEST ORDER of n WORDS (1 .. 6), items of a SHEET, "
            + "taken as a row of a LANE, from item i on: the sum (what -1), or the WORD at place what (0 ..). "
            + "BAD; NULL; CAST; INDEX; NOT: one does not wait, one twice.");
        TurnPort x = words(new int[][]{{0, 1, 9}, {0, 5, 9}, {0, 5, 9}, {0, 5, 9}}, 0, 1, 2, 3, 3, 2, 4, 5, -1);
        x.full(0, 1);
        x.come(0, 1);
        x.ticks(2);
        int[] states = {2, 1, 0, 0, 3};
        for (int w = 0; w < 5; w++) {
            Due.is("word " + w + " is", x.told(w, 0), states[w]);
        }
        Span.bounds("order, what of two", -1, 1, BAD, what -> x.order(0, 2, 2, 2, what));
        Span.bounds("order, what of one", -1, 0, BAD, what -> x.order(0, 2, 2, 1, what));
        Due.is("2 and 3 wait", x.order(0, 2, 2, 2, 0), 2);
        Due.is("from 2 on: 7 and 12", x.order(0, 2, 2, 2, -1), 3);
        Due.is("in another row", x.order(0, 2, 4, 2, 0), 2);
        int[] wrong = {0, 1, 6, 7, 8};
        for (int i : wrong) {
            Due.is("left, sent, dropped, not come, below 0: item " + i, x.order(0, 2, i, 1, -1), TurnPort.NOT);
        }
        Due.is("one twice", x.order(0, 2, 3, 2, -1), TurnPort.NOT);
        Due.is("two twice", x.order(0, 2, 2, 4, -1), TurnPort.NOT);
        Due.is("two of one", x.order(0, 2, 8, 2, -1), TurnPort.INDEX);
        Due.is("ahead of the first", x.order(0, 2, -1, 1, -1), TurnPort.INDEX);
        Due.is("behind the last", x.order(0, 2, 9, 1, -1), TurnPort.INDEX);
        Due.is("as shorts", x.order(0, 1, 2, 1, -1), TurnPort.CAST);
        Due.is("of nothing", x.order(1, 2, 2, 1, -1), TurnPort.NULL);
        Span.bounds("order, sheet", 0, 3, BAD, s -> x.order(s, 2, 2, 1, -1));
        Span.bounds("order, lane", 0, 2, BAD, lane -> x.order(0, lane, 2, 1, -1));
    }
}
