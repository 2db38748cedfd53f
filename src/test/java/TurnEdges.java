/** Terms, section 2, turns; promises 10 to 15. */
final class TurnEdges {
    private static final int BAD = TurnPort.BAD, NONE = TurnPort.NONE;

    private TurnEdges() {
    }

    static void run() {
        oneAtATime();
        openWords();
        marksAtTheRoot();
        wordsOfAHouse();
        marksAreOfHouses();
        left();
        states();
        lateness();
        stoodBehind();
        ticks();
        next();
        count();
        sent();
        late();
        behind();
    }

    private static void row(String name, TurnPort x, int... due) {
        for (int i = 0; i < due.length; i++) {
            Due.is(name + ", turn " + i, x.sent(i), due[i]);
        }
        Due.is(name + ", no more turns", x.sent(due.length), NONE);
    }

    private static void oneAtATime() {
        Said.says("==== 2 THE PORT sends one WORD at a time, a unit of LENGTH a TICK; NOW is 0 at first.");
        TurnPort x = new TurnPort();
        Due.is("NOW is 0 at first", x.count(6), 0);
        x.come(0, 2);
        x.come(0, 1);
        x.come(0, 3);
        int[][] states = {{0, 0, 0}, {1, 0, 0}, {2, 0, 0}, {2, 2, 0}, {2, 2, 1}, {2, 2, 1}, {2, 2, 2}};
        int[] sending = {0, 1, 0, 0, 1, 1, 0};
        for (int now = 0; now < states.length; now++) {
            for (int w = 0; w < 3; w++) {
                Due.is("at " + now + " word " + w + " is", x.told(w, 0), states[now][w]);
            }
            Due.is("at " + now + " so many are sent", x.count(2), sending[now]);
            x.ticks(1);
        }
        int[] from = {0, 2, 3};
        for (int w = 0; w < 3; w++) {
            Due.is("word " + w + " is sent from", x.told(w, 8), from[w]);
        }
    }

    /** GATES are 0 and 3. */
    private static TurnPort withGates() {
        TurnPort x = new TurnPort();
        x.set(0, 3, 3);
        x.come(0, 1);
        x.come(0, 1);
        return x;
    }

    private static void openWords() {
        Said.says("A TICK: if nothing is sent, and some WORD waits whose GATE is NOW or ahead (OPEN ones):");
        TurnPort x = withGates();
        Due.is("GATE is NOW: open", x.count(5), 1);
        x.ticks(2);
        Due.is("NOW is one below GATE", x.count(6), 2);
        Due.is("not open", x.count(5), 0);
        Due.is("not next", x.next(), NONE);
        x.ticks(1);
        Due.is("the tick at 2 did not send it", x.told(1, 0), 0);
        Due.is("GATE is NOW", x.count(5), 1);
        Due.is("next", x.next(), 1);
        x.ticks(1);
        Due.is("it is sent from its GATE on", x.told(1, 8), 3);
        TurnPort y = withGates();
        y.come(1, 9);
        y.ticks(9);
        Due.is("GATE is ahead of NOW: still open", y.count(5), 1);
        y.ticks(1);
        Due.is("not while another is sent", y.told(1, 8), NONE);
        y.ticks(1);
        Due.is("it is sent then", y.told(1, 8), 10);
        TurnPort z = withGates();
        Due.is("many ticks at once", z.ticks(500), 500);
        Due.is("send it from its GATE on too", z.told(1, 8), 3);
    }

    private static void marksAtTheRoot() {
        Said.says("of MARKS at THE ROOT of HOUSES with an OPEN WORD the one of least RANK "
            + "(of like ones that which came first) goes,");
        TurnPort x = new TurnPort();
        for (int s = 0; s < 4; s++) {
            x.set(s, 4, 3 - s);
        }
        int[] lengths = {5, 4, 4, 6};
        for (int s = 0; s < 4; s++) {
            x.come(s, lengths[s]);
        }
        Due.is("like ranks: the first that came", x.next(), 0);
        Tapes.rule(x, 1, "l");
        Due.is("the least, of like ones the first", x.next(), 1);
        Tapes.rule(x, 1, "-l");
        Due.is("the least below 0", x.next(), 3);
        TurnPort y = new TurnPort();
        y.set(0, 3, 5);
        y.set(1, 4, 1);
        y.come(0, 1);
        y.come(0, 1);
        y.ticks(1);
        y.come(1, 1);
        Due.is("house 0's mark came first, but no word of it is open", y.next(), 2);
        y.ticks(3);
        y.come(1, 2);
        y.ticks(1);
        Due.is("word 3 is sent", y.told(3, 0), 1);
        y.come(1, 1);
        Due.is("its GATE is NOW: by its early mark", y.next(), 1);
    }

    private static void wordsOfAHouse() {
        Said.says("and of OPEN WORDS of its HOUSE the one of least RANK (of like ones the first to come) is SENT from now on");
        TurnPort x = new TurnPort();
        Tapes.rule(x, 0, "l");
        x.set(1, 3, 4);
        x.come(0, 7);
        x.come(1, 8);
        x.come(1, 1);
        x.come(0, 7);
        x.set(2, 4, 1);
        x.come(2, 1);
        Due.is("neither the closed one nor that of another house", x.next(), 0);
        x.ticks(7);
        Due.is("sent from now on", x.told(0, 8), 0);
        Due.is("open at 4, and the least", x.next(), 2);
        x.ticks(1);
        Due.is("word 2 went", x.told(2, 8), 7);
        Due.is("then the other like one", x.next(), 3);
        x.ticks(100);
        row("in the end", x, 0, 2, 3, 1, 4);
    }

    private static void marksAreOfHouses() {
        Said.says("(a MARK is of a HOUSE, not of its WORD; there are as many as WORDS wait there).");
        TurnPort x = new TurnPort();
        x.set(1, 4, 1);
        Tapes.rule(x, 0, "-t");
        x.come(7, 3);
        x.ticks(1);
        x.come(0, 1);
        x.ticks(1);
        x.come(1, 1);
        x.ticks(1);
        x.come(0, 1);
        Due.is("house 0's latest word by its first one's mark", x.next(), 3);
        x.ticks(1);
        Due.is("then house 1 by its mark of tick 2", x.next(), 2);
        x.ticks(1);
        Due.is("then house 0's first word by its second one's mark", x.next(), 1);
        x.come(1, 1);
        Due.is("which is of tick 3, ahead of house 1's", x.next(), 1);
        x.ticks(5);
        row("as many marks as words", x, 0, 3, 2, 1, 4);
    }

    private static void left() {
        Said.says("Then NOW is one more; a WORD that was sent for its LENGTH has LEFT.");
        TurnPort x = new TurnPort();
        x.come(0, 1);
        Due.is("NOW is one more", x.ticks(1), 1);
        Due.is("length 1 has left behind one tick", x.told(0, 0), 2);
        x.come(0, 99);
        x.ticks(98);
        Due.is("length 99 has not left behind 98", x.told(1, 0), 1);
        x.ticks(1);
        Due.is("but behind 99", x.told(1, 0), 2);
        Due.is("two left", x.count(3), 2);
        Due.is("none is sent", x.count(2), 0);
        x.come(0, 1);
        x.ticks(1);
        Due.is("the next is sent from that NOW on", x.told(2, 8), 100);
    }

    private static void states() {
        Said.says("A WORD is: 0 waiting, 1 SENT, 2 LEFT, 3 DROPPED.");
        TurnPort x = new TurnPort();
        x.full(0, 1);
        x.come(0, 2);
        x.come(0, 2);
        Due.is("waiting", x.told(0, 0), 0);
        Due.is("dropped", x.told(1, 0), 3);
        x.ticks(1);
        Due.is("sent", x.told(0, 0), 1);
        x.ticks(1);
        Due.is("left", x.told(0, 0), 2);
        x.ticks(9);
        Due.is("left for ever", x.told(0, 0), 2);
        Due.is("dropped for ever", x.told(1, 0), 3);
    }

    private static int lateBy(int due) {
        TurnPort x = new TurnPort();
        x.ticks(10);
        x.set(0, 2, due);
        x.come(0, 3);
        x.ticks(2);
        Due.is("it has not left", x.late(0), -100004);
        x.ticks(1);
        return x.late(0);
    }

    private static void lateness() {
        Said.says("It is LATE by the TICK at which it LEFT, less its TICK and DUE (d).");
        Due.is("left one ahead of its due", lateBy(4), -1);
        Due.is("left at its due", lateBy(3), 0);
        Due.is("left one behind its due", lateBy(2), 1);
        Due.is("the least", lateBy(999), -996);
        Due.is("by no due", lateBy(0), 3);
    }

    private static void stoodBehind() {
        Said.says("It STOOD BEHIND WORDS that were SENT ahead of it, but came behind it.");
        TurnPort x = new TurnPort();
        Tapes.rule(x, 0, "l");
        int[] lengths = {5, 2, 4, 1, 3};
        for (int l : lengths) {
            x.come(0, l);
        }
        x.ticks(15);
        row("by length", x, 3, 1, 4, 2, 0);
        int[][] due = {{3, 1, 4, 2}, {3}, {3, 4}, {}, {}};
        for (int w = 0; w < 5; w++) {
            Due.is("word " + w + " stood behind", x.behind(w, -1), due[w].length);
            for (int i = 0; i < due[w].length; i++) {
                Due.is("the i-th of these", x.behind(w, i), due[w][i]);
            }
            Due.is("no more", x.behind(w, due[w].length), NONE);
        }
    }

    private static void ticks() {
        Said.says("`int ticks(int n)`: n TICKS (1 .. 500): NOW. BAD; FULL: NOW would be above 99999.");
        Span.bounds("ticks", 1, 500, BAD, n -> new TurnPort().ticks(n));
        TurnPort x = new TurnPort();
        for (int i = 1; i < 200; i++) {
            Due.is("NOW", x.ticks(500), 500 * i);
        }
        Due.is("NOW would be 100000", x.ticks(500), TurnPort.FULL);
        Due.is("no tick went", x.count(6), 99500);
        Due.is("NOW is 99999", x.ticks(499), 99999);
        Due.is("NOW would be 100000", x.ticks(1), TurnPort.FULL);
        Due.is("NOW would be far above", x.ticks(500), TurnPort.FULL);
        Due.is("NOW", x.count(6), 99999);
        TurnPort y = new TurnPort();
        for (int i = 0; i < 199; i++) {
            y.ticks(500);
        }
        y.ticks(498);
        y.come(0, 2);
        Due.is("two would be too many", y.ticks(2), TurnPort.FULL);
        Due.is("none of them went", y.told(0, 0), 0);
        Due.is("one is not", y.ticks(1), 99999);
        Due.is("it is sent when no tick is left", y.told(0, 0), 1);
    }

    private static void next() {
        Said.says("`int next()`: Which WORD would be SENT next, if the PORT were free NOW. NONE.");
        TurnPort x = withGates();
        Due.is("free: the one that the next tick sends", x.next(), 0);
        Due.is("and it waits still", x.told(0, 0), 0);
        x.come(1, 9);
        x.come(1, 9);
        x.ticks(2);
        Due.is("not free: as if it were", x.next(), 3);
        x.ticks(1);
        Due.is("by what is open NOW", x.next(), 1);
        x.ticks(500);
        Due.is("nothing waits", x.next(), NONE);
    }

    private static void count() {
        Said.says("`int count(int what)`: How many WORDS: 0 came, 1 wait, 2 SENT (0, 1), 3 LEFT, 4 DROPPED; 5 OPEN ones; "
            + "6 NOW; 7 VIRTUAL. BAD.");
        Span.bounds("count, what", 0, 7, BAD, what -> new TurnPort().count(what));
        TurnPort x = new TurnPort();
        x.set(1, 3, 20);
        x.full(0, 6);
        for (int i = 0; i < 4; i++) {
            x.come(0, 2);
        }
        for (int i = 0; i < 5; i++) {
            x.come(1, 1);
        }
        int[][] due = {{9, 6, 0, 0, 3, 5, 0, 0}, {9, 5, 1, 0, 3, 4, 1, 0}, {9, 5, 0, 1, 3, 4, 2, 32}, {9, 4, 1, 1, 3, 3, 3, 32}};
        for (int now = 0; now < 4; now++) {
            for (int what = 0; what < 8; what++) {
                Due.is("at " + now + " count " + what, x.count(what), due[now][what]);
            }
            x.ticks(1);
        }
    }

    private static void sent() {
        Said.says("`int sent(int i)`: The i-th WORD that was SENT (0: the first). BAD; NONE.");
        TurnPort x = new TurnPort();
        Due.is("none was", x.sent(0), NONE);
        Tapes.rule(x, 0, "-n");
        x.come(0, 1);
        x.come(0, 2);
        x.ticks(1);
        row("one was, and has not left", x, 1);
        x.ticks(2);
        row("two were", x, 1, 0);
        Due.is("below 0", x.sent(-1), BAD);
        Due.is("far below 0", x.sent(Integer.MIN_VALUE), BAD);
        Due.is("999", x.sent(999), NONE);
        Due.is("1000", x.sent(1000), NONE);
        Due.is("far above", x.sent(Integer.MAX_VALUE), NONE);
    }

    private static void late() {
        Said.says("`int late(int word)`: By how much a WORD is LATE. BAD less 100000 (-100001); NONE less that: it has not LEFT.");
        TurnPort x = new TurnPort();
        Due.is("no word yet", x.late(0), -100001);
        for (int i = 0; i < 3; i++) {
            x.come(0, 2);
        }
        x.full(0, 1);
        x.come(0, 2);
        x.ticks(3);
        int[] due = {-98, -100004, -100004, -100004};
        for (int w = 0; w < 4; w++) {
            Due.is("left, sent, waits, dropped: " + w, x.late(w), due[w]);
        }
        Span.bounds("late, word", 0, 3, -100001, w -> x.late(w));
    }

    private static void behind() {
        Said.says("`int behind(int word, int what)`: How many WORDS a WORD STOOD BEHIND (what -1), or the i-th of these "
            + "(in the order in which they were SENT). BAD; NOT: it was not SENT; NONE.");
        TurnPort x = new TurnPort();
        Due.is("no word yet", x.behind(0, -1), BAD);
        Tapes.rule(x, 0, "-l");
        for (int l = 2; l <= 4; l++) {
            x.come(0, l);
        }
        x.full(0, 1);
        x.come(0, 5);
        x.ticks(8);
        Due.is("word 0 is sent, and has not left", x.told(0, 0), 1);
        Due.is("it stood behind two", x.behind(0, -1), 2);
        Due.is("the first", x.behind(0, 0), 2);
        Due.is("the second", x.behind(0, 1), 1);
        Due.is("no third", x.behind(0, 2), NONE);
        Due.is("far above", x.behind(0, Integer.MAX_VALUE), NONE);
        Due.is("what below -1", x.behind(0, -2), BAD);
        Due.is("far below", x.behind(0, Integer.MIN_VALUE), BAD);
        Due.is("none: how many", x.behind(2, -1), 0);
        Due.is("none: the first", x.behind(2, 0), NONE);
        Due.is("dropped", x.behind(3, -1), TurnPort.NOT);
        Due.is("dropped", x.behind(3, 0), TurnPort.NOT);
        x.come(0, 1);
        Due.is("waits", x.behind(4, -1), TurnPort.NOT);
        Span.bounds("behind, word", 0, 4, BAD, w -> x.behind(w, -1));
    }
}
