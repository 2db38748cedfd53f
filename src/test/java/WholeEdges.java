import java.util.function.ToLongFunction;

/** "What it is", part by part, an object's 512 calls, and what is not promised. */
final class WholeEdges {
    private static final int NONE = TurnPort.NONE, NULL = TurnPort.NULL, CALLS = 512;

    private WholeEdges() {
    }

    static void run() {
        wordsCome();
        leastGoes();
        ruleIsText();
        rootTurns();
        gatesAndFullPorts();
        rulesChange();
        promised();
        sharesTaken();
        fewHeaps();
        smallRules();
        bestOrder();
        stoodBehind();
        missingRows();
        manyCalls();
        notPromised();
    }

    private static void row(String name, TurnPort x, int... due) {
        for (int i = 0; i < due.length; i++) {
            Due.is(name + ", turn " + i, x.sent(i), due[i]);
        }
        Due.is(name + ", no more turns", x.sent(due.length), NONE);
    }

    private static void wordsCome() {
        Said.says("Who goes next: words of streams that come to a port,");
        TurnPort x = new TurnPort();
        Due.is("nobody came", x.next(), NONE);
        Due.is("stream 3's word", x.come(3, 2), 0);
        Due.is("stream 5's word", x.come(5, 1), 1);
        Due.is("who goes next", x.next(), 0);
        x.ticks(2);
        Due.is("and then", x.next(), 1);
        x.ticks(1);
        Due.is("all went", x.next(), NONE);
        row("as they came", x, 0, 1);
    }

    /** Words come between turns; at each turn all that wait are looked at for the least. */
    private static void leastGoes() {
        Said.says("one store that always gives back the least,");
        TurnPort x = new TurnPort();
        Tapes.rule(x, 0, "3l-2n+c");
        for (int turn = 0; turn < 12; turn++) {
            for (int more = 0; more < 2 && turn < 7; more++) {
                x.set(turn % 3, 0, turn * 5 % 7);
                x.come(turn % 3, 1 + (turn * 2 + more) * 7 % 5);
            }
            Due.is("next at turn " + turn, x.next(), leastOf(x));
            x.ticks(1 + turn * 3 % 4);
        }
    }

    private static int leastOf(TurnPort x) {
        int least = NONE;
        for (int w = 0; w < x.count(0); w++) {
            if (x.told(w, 0) == 0 && (least == NONE || x.rank(w, 0) < x.rank(least, 0))) {
                least = w;
            }
        }
        return least;
    }

    private static void ruleIsText() {
        Said.says("a rule as a text of how that number is made;");
        TurnPort x = new TurnPort();
        x.ticks(3);
        x.set(2, 0, 4);
        x.set(2, 1, 5);
        x.come(2, 9);
        x.come(2, 7);
        Due.is("six terms", Tapes.rule(x, 0, "2c - l + 3t - d + 50n + f"), 6);
        Due.is("8 - 9 + 9 - 103 + 0 + 28", x.rank(0, 0), -67);
        Due.is("8 - 7 + 9 - 103 + 50 + 50", x.rank(1, 0), 7);
    }

    private static void rootTurns() {
        Said.says("a root that turns among houses by its own rule;");
        TurnPort x = new TurnPort();
        Tapes.rule(x, 0, "-n");
        Tapes.rule(x, 1, "n");
        for (int s = 0; s < 3; s++) {
            x.set(s, 4, s);
            for (int i = 0; i < 3; i++) {
                x.come(s, 1);
            }
        }
        x.ticks(9);
        row("house by house, in each the latest first", x, 2, 5, 8, 1, 4, 7, 0, 3, 6);
    }

    private static void gatesAndFullPorts() {
        Said.says("gates that hold a word till a moment, full ports that drop as told;");
        TurnPort x = new TurnPort();
        x.set(0, 3, 10);
        x.full(0, 2);
        for (int i = 0; i < 3; i++) {
            x.come(0, 1);
        }
        Due.is("the third one is dropped", x.told(2, 0), 3);
        x.ticks(5);
        x.come(0, 1);
        x.ticks(100);
        int[] from = {0, 10, NONE, 30};
        for (int w = 0; w < 4; w++) {
            Due.is("word " + w + " is sent from", x.told(w, 8), from[w]);
        }
    }

    private static void rulesChange() {
        Said.says("rules changed while words wait;");
        TurnPort x = new TurnPort();
        int[] lengths = {2, 1, 3, 4};
        for (int l : lengths) {
            x.come(0, l);
        }
        Tapes.rule(x, 0, "l");
        x.ticks(1);
        Tapes.rule(x, 0, "-l");
        x.ticks(4);
        Tapes.rule(x, 0, "n");
        x.ticks(5);
        row("by three rules", x, 1, 3, 0, 2);
    }

    /** Three streams send their bursts at once and keep to their rates: none waits beyond its promise. */
    private static void promised() {
        Said.says("what a stream is promised by bounds of all;");
        TurnPort x = new TurnPort();
        int[] bursts = {10, 5, 20};
        int[] rates = {4, 2, 4};
        for (int s = 0; s < 3; s++) {
            x.set(s, 0, s + 1);
            x.set(s, 5, bursts[s]);
            x.set(s, 6, rates[s]);
        }
        x.set(7, 0, 9);
        int[] due = {15, 27, 64};
        for (int s = 0; s < 3; s++) {
            Due.is("16 times bursts and most by what is left", x.promise(s, 5), due[s]);
        }
        Tapes.rule(x, 0, "c");
        x.come(7, 5);
        x.ticks(1);
        for (int i = 0; i < 15; i++) {
            x.come(2 - i / 5, i < 5 ? 4 : i < 10 ? 1 : 2);
        }
        for (int i = 0; i < 6; i++) {
            x.ticks(16);
            for (int s = 0; s < 3; s++) {
                x.come(s, rates[s]);
            }
        }
        x.ticks(100);
        for (int w = 1; w < x.count(0); w++) {
            int waited = x.told(w, 8) + x.told(w, 2) - x.told(w, 3);
            Due.holds("word " + w + " left within its promise", waited <= due[x.told(w, 1)]);
        }
    }

    private static void sharesTaken() {
        Said.says("shares taken beside shares told;");
        TurnPort x = new TurnPort();
        Tapes.rule(x, 0, "f");
        x.set(1, 1, 3);
        for (int i = 0; i < 4; i++) {
            x.come(0, 4);
        }
        for (int i = 0; i < 12; i++) {
            x.come(1, 4);
        }
        int[][] due = {{0, 0, 0, 0}, {0, 12, 3, -3}, {4, 12, 0, 0}, {4, 20, 2, -2}, {8, 24, 0, 0}};
        int[] more = {0, 12, 4, 8, 8};
        for (int step = 0; step < due.length; step++) {
            if (step > 0) {
                x.ticks(more[step]);
            }
            for (int s = 0; s < 2; s++) {
                Due.is("step " + step + ", taken by " + s, x.taken(s), due[step][s]);
                Due.is("step " + step + ", behind is " + s + " by", x.lags(s), due[step][2 + s]);
            }
        }
    }

    private static void fewHeaps() {
        Said.says("few heaps in place of a true store, how far out of order, the best cuts by a table;");
        TurnPort x = new TurnPort();
        Rows.put(x, 0, 1, 3, 1, 2, 0);
        Due.is("one heap", x.heaps(0, 1, 0, 4, 1), 5);
        Due.is("eight like ones: all fall to the first", x.heaps(0, 1, 0, 4, 8), 5);
        int[] cuts = {5, 2, 0, 0};
        for (int k = 1; k <= 4; k++) {
            Due.is("the best cut for " + k, x.cut(0, 1, 0, 4, k), cuts[k - 1]);
        }
    }

    /** Six words of unlike kinds wait while a long one is sent; a rule is told; all are sent. */
    private static TurnPort sentBy(String rule) {
        TurnPort x = new TurnPort();
        int[] classes = {5, 2, 7, 2, 0, 9};
        int[] lengths = {9, 12, 3, 8, 14, 1};
        int[] dues = {40, 11, 35, 28, 10, 22};
        x.come(7, 30);
        for (int i = 0; i < 6; i++) {
            x.ticks(1 + i);
            x.set(i, 0, classes[i]);
            x.set(i, 2, dues[i]);
            x.come(i, lengths[i]);
        }
        Due.holds("the rule " + rule, Tapes.rule(x, 0, rule) > 0);
        x.ticks(200);
        return x;
    }

    private static String textOf(int digits) {
        String letters = "cltd";
        String one = digits / 10 % 10 + "" + letters.charAt(digits % 10 - 1);
        return digits < 100 ? one : textOf(digits / 100) + "+" + one;
    }

    /** What a small rule sent, some small rule is found for; that one sends the same row of turns. */
    private static void smallRules() {
        Said.says("which small rule gives a row of turns;");
        for (int a = 0; a < 16; a++) {
            for (int b = 0; b <= 16; b++) {
                int first = 10 * (a % 4 + 1) + a / 4 + 1;
                int code = b == 16 ? first : 100 * first + 10 * (b % 4 + 1) + b / 4 + 1;
                TurnPort x = sentBy(textOf(code));
                int[] turns = new int[7];
                for (int i = 0; i < 7; i++) {
                    turns[i] = x.sent(i);
                }
                Rows.put(x, 0, 0, turns);
                int found = x.found(0, 0, 1, 6);
                Due.holds("found for " + code + ": " + found, found >= 11 && (found < 100 || code > 100) && found <= 4444);
                row("by " + found + " as by " + code, sentBy(textOf(Math.max(11, found))), turns);
            }
        }
    }

    private static void bestOrder() {
        Said.says("the best order for dues;");
        TurnPort x = new TurnPort();
        int[] lengths = {5, 2, 4};
        int[] dues = {4, 2, 20};
        for (int s = 0; s < 3; s++) {
            x.set(s, 2, dues[s]);
            x.come(s, lengths[s]);
        }
        Rows.put(x, 0, 2, 2, 0, 1);
        Due.is("late by 0, 3, 0", x.order(0, 2, 0, 3, -1), 3);
        int[] order = {1, 0, 2};
        for (int i = 0; i < 3; i++) {
            Due.is("at place " + i, x.order(0, 2, 0, 3, i), order[i]);
        }
    }

    private static void stoodBehind() {
        Said.says("whom a late word stood behind;");
        TurnPort x = new TurnPort();
        Tapes.rule(x, 0, "l");
        x.set(0, 2, 5);
        x.come(0, 9);
        x.come(1, 3);
        x.come(2, 2);
        x.ticks(14);
        Due.is("late by 14 less 5", x.late(0), 9);
        Due.is("it stood behind two", x.behind(0, -1), 2);
        Due.is("the first of them", x.behind(0, 0), 2);
        Due.is("the second", x.behind(0, 1), 1);
    }

    private static void missingRows() {
        Said.says("sheets of rows that may be missing.");
        TurnPort x = new TurnPort();
        for (int s = 0; s < 4; s++) {
            Due.is("no row yet", x.item(s, 0, 0, 1), NULL);
            Due.is("a row", x.sheet(s, 0, 2), 2);
            Due.is("it has two items", x.drop(s), 2);
            Due.is("it is gone", x.drop(s), NULL);
            Due.is("no word comes from it", x.comes(s, 0, 0, 1), NULL);
        }
    }

    /** The same call till the 512th, the object having been used for some already. */
    private static void till512(String name, TurnPort x, int used, long due, ToLongFunction<TurnPort> call) {
        for (int i = used + 1; i <= CALLS; i++) {
            Due.is(name + ", call " + i, call.applyAsLong(x), due);
        }
    }

    private static void manyCalls() {
        Said.says("An object is used for at most 512 calls after it has been made; what later calls answer is free.");
        TurnPort set = new TurnPort();
        TurnPort come = new TurnPort();
        TurnPort type = new TurnPort();
        TurnPort ticks = new TurnPort();
        TurnPort sheet = new TurnPort();
        for (int i = 0; i < CALLS; i++) {
            Due.is("set", set.set(7, 5, i), i == 0 ? 0 : i - 1);
            Due.is("come", come.come(i % 8, 1 + i % 99), i);
            Due.is("type and rule", i % 2 == 0 ? type.type(0x63, 1) : type.rule(i / 2 % 2), 1);
            Due.is("ticks", ticks.ticks(195), 195 * (i + 1));
            Due.is("sheet and drop", i % 2 == 0 ? sheet.sheet(i / 2 % 4, i % 3, i % 25) : sheet.drop(i / 2 % 4),
                i % 2 == 0 ? i % 25 : (i - 1) % 25);
        }
        TurnPort comes = new TurnPort();
        comes.sheet(0, 0, 24);
        for (int i = 1; i < 24; i += 2) {
            comes.item(0, 0, i, 1);
        }
        for (int i = 13; i < CALLS; i++) {
            int first = 12 * (i - 13);
            Due.is("comes", comes.comes(0, 0, 0, 12), first <= 988 ? first : TurnPort.FULL);
        }
        manyQuestions();
    }

    /** Five words came, two left, one is sent, one waits, one was dropped; 22 calls made. */
    private static TurnPort used() {
        TurnPort x = new TurnPort();
        x.full(0, 4);
        for (int i = 0; i < 5; i++) {
            x.come(i, 2 + i);
        }
        x.ticks(7);
        Rows.put(x, 0, 0, 3, 1, 2, 0, 7, 5, 6, 4);
        Rows.put(x, 1, 1, 3, 0, 1);
        x.count(0);
        x.count(1);
        return x;
    }

    private static void manyQuestions() {
        int calls = 22;
        till512("told", used(), calls, 2, x -> x.told(0, 0));
        till512("rank", used(), calls, 0, x -> x.rank(3, 1));
        till512("full", used(), calls, 4, x -> x.full(0, 4));
        till512("next", used(), calls, 3, x -> x.next());
        till512("count", used(), calls, 7, x -> x.count(6));
        till512("sent", used(), calls, 2, x -> x.sent(2));
        till512("late", used(), calls, -95, x -> x.late(1));
        till512("behind", used(), calls, 0, x -> x.behind(1, -1));
        till512("promise", used(), calls, 9, x -> x.promise(0, 9));
        till512("taken", used(), calls, 3, x -> x.taken(1));
        till512("lags", used(), calls, -1, x -> x.lags(0));
        till512("heaps", used(), calls, 5 + 5, x -> x.heaps(0, 0, 0, 8, 8));
        till512("cut", used(), calls, 0, x -> x.cut(0, 0, 0, 8, 8));
        till512("found", used(), calls, NONE, x -> x.found(1, 1, 0, 3));
        till512("order", used(), calls, 3, x -> x.order(1, 1, 0, 1, 0));
        till512("item", used(), calls, 1, x -> x.item(1, 1, 2, 9));
        till512("copy", used(), calls, 7, x -> x.copy(0, 0, 0, 1, 7));
    }

    private static void notPromised() {
        Said.says("How the state is held inside the object is free, as are the speed of each call, "
            + "the text of toString and the behaviour of equals and hashCode. "
            + "Use of one object from several threads at once is not promised to be safe.");
        Said.says("Nothing is promised beyond the answers and state changes described above, "
            + "and nothing about an object after its 512th call.");
        askingChangesNothing();
        objectsAreApart();
    }

    private static void askingChangesNothing() {
        TurnPort x = AnswerEdges.busy();
        x.told(3, 8);
        x.rank(2, 0);
        x.rank(2, 1);
        x.next();
        x.count(5);
        x.sent(0);
        x.late(0);
        x.behind(0, -1);
        x.behind(0, 0);
        x.promise(2, 9);
        x.taken(1);
        x.lags(1);
        AnswerEdges.unchanged("asking", x);
        TurnPort y = AnswerEdges.busy();
        y.heaps(0, 0, 0, 6, 4);
        y.cut(0, 0, 0, 6, 3);
        y.found(1, 2, 0, 4);
        y.order(1, 2, 0, 2, -1);
        y.order(1, 2, 0, 2, 1);
        AnswerEdges.unchanged("asking of rows", y);
    }

    private static void objectsAreApart() {
        TurnPort x = AnswerEdges.busy();
        TurnPort other = new TurnPort();
        other.set(0, 0, 9);
        other.full(0, 1);
        Tapes.rule(other, 0, "n");
        Tapes.rule(other, 1, "n");
        Tapes.type(other, "abc");
        other.come(0, 9);
        other.ticks(3);
        Rows.put(other, 0, 2, 1, 2, 3);
        other.drop(1);
        AnswerEdges.unchanged("another object", x);
    }
}
