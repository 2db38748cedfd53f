/** Promises 1 to 9: streams, words, rules. */
public final class StreamsTest {
    private static final int LOW = Integer.MIN_VALUE, HIGH = Integer.MAX_VALUE;
    private static final long NO_RANK = -1099511627777L;

    public static void main(String[] args) {
        newObject();
        set();
        come();
        endsAndVirtual();
        gates();
        comes();
        comesFull();
        type();
        ruleTexts();
        ruleFaults();
        ruleWhileWordsWait();
        told();
        rank();
        full();
        dropsItself();
        dropsGreatest();
        dropsOfFullest();
        dropTakesMark();
        Due.end("StreamsTest");
    }

    private static void newObject() {
        TurnPort x = new TurnPort();
        for (int what = 0; what <= 7; what++) {
            Due.is("new count " + what, x.count(what), 0);
        }
        Due.is("new next", x.next(), TurnPort.NONE);
        Due.is("new sent", x.sent(0), TurnPort.NONE);
        for (int s = 0; s < 4; s++) {
            Due.is("new drop " + s, x.drop(s), TurnPort.NULL);
        }
        Due.is("new told", x.told(0, 0), TurnPort.BAD);
        Due.is("new rule", x.rule(0), -20);
    }

    private static void set() {
        TurnPort x = new TurnPort();
        int[] first = {0, 1, 100, 0, 0, 0, 0};
        int[] least = {0, 1, 0, 0, 0, 0, 0};
        int[] most = {9, 16, 999, 99, 3, 999, 16};
        for (int s = 0; s < 8; s++) {
            for (int what = 0; what < 7; what++) {
                String name = "set " + s + " " + what;
                Due.is(name, x.set(s, what, most[what]), first[what]);
                Due.is(name, x.set(s, what, most[what] + 1), TurnPort.BAD);
                Due.is(name, x.set(s, what, least[what] - 1), TurnPort.BAD);
                Due.is(name, x.set(s, what, LOW), TurnPort.BAD);
                Due.is(name, x.set(s, what, HIGH), TurnPort.BAD);
                Due.is(name, x.set(s, what, least[what]), most[what]);
                Due.is(name, x.set(s, what, first[what]), least[what]);
            }
        }
        int[] wrong = {-1, 8, LOW, HIGH};
        for (int s : wrong) {
            Due.is("set stream " + s, x.set(s, 0, 1), TurnPort.BAD);
        }
        int[] wrongWhat = {-1, 7, LOW, HIGH};
        for (int what : wrongWhat) {
            Due.is("set what " + what, x.set(0, what, 1), TurnPort.BAD);
        }
    }

    private static void come() {
        TurnPort x = new TurnPort();
        int[][] wrong = {{-1, 5}, {8, 5}, {LOW, 5}, {HIGH, 5}, {0, 0}, {0, 100}, {0, -1}, {0, LOW}, {0, HIGH}};
        for (int[] w : wrong) {
            Due.is("come " + w[0] + " " + w[1], x.come(w[0], w[1]), TurnPort.BAD);
        }
        Due.is("nothing came", x.count(0), 0);
        Due.is("come 0 1", x.come(0, 1), 0);
        Due.is("come 7 99", x.come(7, 99), 1);
        Due.is("two came", x.count(0), 2);
        Due.is("two wait", x.count(1), 2);
    }

    private static void endsAndVirtual() {
        TurnPort x = new TurnPort();
        x.set(1, 1, 3);
        x.come(0, 2);
        x.come(1, 5);
        x.come(1, 5);
        Due.is("end 32", x.told(0, 4), 32);
        Due.is("80 by 3, cut", x.told(1, 4), 26);
        Due.is("end behind end", x.told(2, 4), 52);
        Due.is("virtual 0 at first", x.count(7), 0);
        x.ticks(1);
        Due.is("virtual stays while it is sent", x.count(7), 0);
        x.come(2, 1);
        Due.is("end by virtual 0", x.told(3, 4), 16);
        x.ticks(1);
        Due.is("virtual is the end of what left", x.count(7), 32);
        x.come(2, 1);
        Due.is("virtual above the latest end", x.told(4, 4), 48);
        x.come(1, 3);
        Due.is("latest end above virtual", x.told(5, 4), 68);
        x.ticks(5);
        Due.is("virtual may fall", x.count(7), 26);
        x.set(1, 1, 16);
        Due.is("share as told when it came", x.told(5, 4), 68);
    }

    private static void gates() {
        TurnPort x = new TurnPort();
        x.ticks(4);
        x.set(0, 3, 10);
        x.come(0, 1);
        Due.is("the first one's gate is its tick", x.told(0, 5), 4);
        x.come(0, 1);
        Due.is("gate and gap", x.told(1, 5), 14);
        x.set(0, 3, 2);
        x.come(0, 1);
        Due.is("gap as told now", x.told(2, 5), 16);
        Due.is("one is open", x.count(5), 1);
        x.ticks(10);
        Due.is("tick 14 opens gate 14", x.count(5), 1);
        Due.is("it is the next", x.next(), 1);
        x.ticks(86);
        x.come(0, 1);
        Due.is("tick above gate and gap", x.told(3, 5), 100);
        Due.is("was sent from its gate on", x.told(2, 8), 16);
        x.full(0, 1);
        x.come(0, 1);
        Due.is("dropped", x.told(4, 0), 3);
        x.come(0, 1);
        Due.is("a dropped one's gate counts", x.told(5, 5), 104);
        Due.is("a dropped one's end counts", x.told(5, 4) - x.told(4, 4), 16);
        Due.is("a dropped one's place counts", x.told(5, 7), 5);
    }

    private static void comes() {
        TurnPort x = new TurnPort();
        Due.is("NULL", x.comes(0, 0, 0, 1), TurnPort.NULL);
        x.sheet(0, 0, 24);
        int[] items = {3, 9, 0, 1, 7, 99, 8, 1, 0, 0, 0, 100, -1, 5};
        for (int i = 0; i < items.length; i++) {
            x.item(0, 0, i, items[i]);
        }
        Due.is("three come", x.comes(0, 0, 0, 3), 0);
        Due.is("stream 0", x.told(0, 1), 3);
        Due.is("length 0", x.told(0, 2), 9);
        Due.is("stream 2", x.told(2, 1), 7);
        Due.is("length 2", x.told(2, 2), 99);
        Due.is("two more", x.comes(0, 0, 2, 2), 3);
        Due.is("none", x.comes(0, 0, 0, 0), TurnPort.NONE);
        Due.is("none at the end", x.comes(0, 0, 24, 0), TurnPort.NONE);
        for (int i = 6; i <= 12; i += 2) {
            Due.is("NOT at " + i, x.comes(0, 0, i, 1), TurnPort.NOT);
        }
        Due.is("NOT behind good ones", x.comes(0, 0, 0, 4), TurnPort.NOT);
        Due.is("five came", x.count(0), 5);
        Due.is("n 13", x.comes(0, 0, 0, 13), TurnPort.BAD);
        Due.is("n -1", x.comes(0, 0, 0, -1), TurnPort.BAD);
        Due.is("n HIGH", x.comes(0, 0, 0, HIGH), TurnPort.BAD);
        Due.is("sheet -1", x.comes(-1, 0, 0, 1), TurnPort.BAD);
        Due.is("sheet 4", x.comes(4, 0, 0, 1), TurnPort.BAD);
        Due.is("lane 3", x.comes(0, 3, 0, 1), TurnPort.BAD);
        Due.is("lane -1 of nothing", x.comes(1, -1, 0, 1), TurnPort.BAD);
        Due.is("NULL ahead of INDEX", x.comes(1, 0, -1, 1), TurnPort.NULL);
        Due.is("CAST ahead of INDEX", x.comes(0, 1, -1, 1), TurnPort.CAST);
        Due.is("INDEX -1", x.comes(0, 0, -1, 1), TurnPort.INDEX);
        Due.is("INDEX 23", x.comes(0, 0, 23, 1), TurnPort.INDEX);
        Due.is("INDEX 25", x.comes(0, 0, 25, 0), TurnPort.INDEX);
        Due.is("INDEX ahead of NOT", x.comes(0, 0, 6, 10), TurnPort.INDEX);
        Due.is("INDEX HIGH", x.comes(0, 0, HIGH, 12), TurnPort.INDEX);
        Due.is("INDEX LOW", x.comes(0, 0, LOW, 12), TurnPort.INDEX);
        Due.is("five came still", x.count(0), 5);
    }

    private static void comesFull() {
        TurnPort x = new TurnPort();
        x.sheet(2, 2, 24);
        for (int i = 1; i < 24; i += 2) {
            x.item(2, 2, i, 1);
        }
        for (int call = 0; call < 83; call++) {
            Due.is("comes " + call, x.comes(2, 2, 0, 12), 12 * call);
        }
        Due.is("not all have numbers", x.comes(2, 2, 0, 5), TurnPort.FULL);
        x.item(2, 2, 0, 9);
        Due.is("NOT ahead of FULL", x.comes(2, 2, 0, 5), TurnPort.NOT);
        Due.is("none changed", x.count(0), 996);
        Due.is("the last four", x.comes(2, 2, 2, 4), 996);
        Due.is("no number left", x.come(0, 1), TurnPort.FULL);
        Due.is("BAD ahead of FULL", x.come(8, 1), TurnPort.BAD);
        Due.is("no number left for one", x.comes(2, 2, 2, 1), TurnPort.FULL);
        Due.is("none wanted", x.comes(2, 2, 2, 0), TurnPort.NONE);
        Due.is("1000 came", x.count(0), 1000);
        Due.is("24 wait", x.count(1), 24);
        Due.is("976 dropped", x.count(4), 976);
        Due.is("the last one's place", x.told(999, 7), 999);
    }

    private static void type() {
        TurnPort x = new TurnPort();
        Due.is("n 0", x.type(0x63, 0), TurnPort.BAD);
        Due.is("n 9", x.type(0x63, 9), TurnPort.BAD);
        Due.is("n -1", x.type(0x63, -1), TurnPort.BAD);
        Due.is("n LOW", x.type(0x63, LOW), TurnPort.BAD);
        Due.is("n HIGH", x.type(0x63, HIGH), TurnPort.BAD);
        Due.is("byte 31", x.type(0x631f, 2), TurnPort.BAD);
        Due.is("byte 127", x.type(0x7f63, 2), TurnPort.BAD);
        Due.is("byte 0 above", x.type(0x63, 2), TurnPort.BAD);
        Due.is("byte 255", x.type(-1L, 8), TurnPort.BAD);
        Due.is("byte 128", x.type(0x80, 1), TurnPort.BAD);
        Due.is("bytes 32 and 126", x.type(0x207e, 2), 2);
        Due.is("only the lowest", x.type(0xff63, 1), 3);
        Due.is("126 can't stand", x.rule(0), -21);
        Tapes.type(x, "ccccccccccccccccccccccccccccccccc");
        Due.is("33 and 8", x.type(0x6363636363636363L, 8), TurnPort.FULL);
        Due.is("33 and 7", x.type(0x63636363636363L, 7), 40);
        Due.is("40 and 1", x.type(0x63, 1), TurnPort.FULL);
        Due.is("BAD ahead of FULL", x.type(0, 1), TurnPort.BAD);
        Due.is("a second c can't stand", x.rule(0), -21);
        Due.is("the tape is empty then", x.type(0x63, 1), 1);
        Due.is("highest first", x.type(0x2b6cL, 2), 3);
        Due.is("c+l", x.rule(0), 2);
    }

    private static TurnPort withWord() {
        TurnPort x = new TurnPort();
        x.set(3, 0, 7);
        x.set(3, 1, 4);
        x.set(3, 2, 50);
        x.come(3, 1);
        x.ticks(2);
        x.come(3, 30);
        return x;
    }

    private static void ruleTexts() {
        TurnPort x = withWord();
        Object[][] texts = {
            {"c", 1, 7L}, {"l", 1, 30L}, {"t", 1, 2L}, {"d", 1, 52L}, {"n", 1, 1L}, {"f", 1, 124L},
            {"+c", 1, 7L}, {"-c", 1, -7L}, {"99c", 1, 693L}, {"-99f", 1, -12276L}, {"c-c", 2, 0L},
            {"1c+2l-3t+4d-5n+6f", 6, 7L + 60 - 6 + 208 - 5 + 744}, {"c+c+c+c+c+c", 6, 42L},
            {"  - 3  d  +  n  ", 2, -155L}, {"10l", 1, 300L}, {"05c", 1, 35L}, {"000000000000000000000099c", 1, 693L}};
        for (Object[] t : texts) {
            Due.is("rule " + t[0], Tapes.rule(x, 0, (String) t[0]), (Integer) t[1]);
            Due.is("rank by " + t[0], x.rank(1, 0), (Long) t[2]);
        }
        Due.is("the root's rule is t still", x.rank(1, 1), 2);
        Due.is("the root's rule", Tapes.rule(x, 1, "2l-t"), 2);
        Due.is("its rank", x.rank(1, 1), 58);
        Due.is("the rule stays", x.rank(1, 0), 693);
    }

    private static void ruleFaults() {
        TurnPort x = withWord();
        Tapes.rule(x, 0, "5l");
        Object[][] texts = {
            {"", -20}, {"   ", -23}, {"x", -20}, {"  x", -22}, {"C", -20}, {"0c", -20}, {"100c", -20}, {"  0c", -22},
            {"c+0l", -22}, {"c+ 100l", -23}, {"5", -21}, {"5  ", -23}, {"+", -21}, {"+ ", -22}, {"++c", -21},
            {"+-c", -21}, {"5+c", -21}, {"5 5c", -22}, {"cl", -21}, {"c l", -22}, {"c5l", -21}, {"c+", -22},
            {"c--t", -22}, {"c*2", -21}, {"0", -20}, {"0x", -20}, {"c+l-x", -24}, {"c+c+c+c+c+c+", -31},
            {"c+c+c+c+c+c -c", -32}, {"c+c+c+c+c+cc", -31}, {"99999999999999999999999999999999999999c", -20},
            {"4294967297c", -20}, {"c+l                                    ", 2}};
        for (Object[] t : texts) {
            Due.is("rule '" + t[0] + "'", Tapes.rule(x, 0, (String) t[0]), (Integer) t[1]);
            Due.is("the tape is empty behind '" + t[0] + "'", x.rule(1), -20);
            if ((Integer) t[1] < 0) {
                Due.is("the rule stays behind '" + t[0] + "'", x.rank(1, 0), 150);
            }
        }
        Tapes.type(x, "c");
        int[] wrong = {-1, 2, LOW, HIGH};
        for (int which : wrong) {
            Due.is("rule " + which, x.rule(which), TurnPort.BAD);
        }
        Due.is("the tape stays", x.rule(1), 1);
    }

    private static void ruleWhileWordsWait() {
        TurnPort x = new TurnPort();
        x.set(0, 0, 5);
        x.come(0, 9);
        x.set(0, 0, 1);
        x.come(0, 5);
        x.come(0, 7);
        Due.is("by t the first", x.next(), 0);
        Tapes.rule(x, 0, "l");
        Due.is("by l the least", x.next(), 1);
        Tapes.rule(x, 0, "-l");
        Due.is("by -l the greatest", x.next(), 0);
        Tapes.rule(x, 0, "c");
        Due.is("by c as it came", x.next(), 1);
        Tapes.rule(x, 0, "-n");
        Due.is("by -n the last", x.next(), 2);
        Due.is("a fault", Tapes.rule(x, 0, "c+"), -22);
        Due.is("changes nothing", x.next(), 2);
    }

    private static void told() {
        TurnPort x = new TurnPort();
        x.set(5, 1, 2);
        x.set(5, 2, 30);
        x.set(5, 3, 4);
        x.set(5, 4, 2);
        x.ticks(6);
        x.come(5, 3);
        x.come(5, 10);
        x.full(0, 1);
        x.come(0, 1);
        int[][] due = {
            {0, 5, 3, 6, 24, 6, 36, 0, TurnPort.NONE, 2},
            {0, 5, 10, 6, 104, 10, 36, 1, TurnPort.NONE, 2},
            {3, 0, 1, 6, 16, 6, 106, 0, TurnPort.NONE, 0}};
        for (int w = 0; w < 3; w++) {
            for (int what = 0; what < 10; what++) {
                Due.is("told " + w + " " + what, x.told(w, what), due[w][what]);
            }
        }
        x.ticks(1);
        Due.is("it is sent", x.told(0, 0), 1);
        Due.is("from tick 6", x.told(0, 8), 6);
        x.ticks(2);
        Due.is("it has left", x.told(0, 0), 2);
        Due.is("from tick 6 still", x.told(0, 8), 6);
        x.ticks(2);
        Due.is("the next from its gate", x.told(1, 8), 10);
        int[] wrongWhat = {-1, 10, LOW, HIGH};
        for (int what : wrongWhat) {
            Due.is("told what " + what, x.told(0, what), TurnPort.BAD);
        }
        int[] wrongWord = {-1, 3, 1000, LOW, HIGH};
        for (int word : wrongWord) {
            Due.is("told word " + word, x.told(word, 0), TurnPort.BAD);
            Due.is("told word " + word, x.told(word, 8), TurnPort.BAD);
        }
    }

    private static void rank() {
        TurnPort x = withWord();
        Due.is("at first t", x.rank(1, 0), 2);
        Due.is("the mark's at first t", x.rank(1, 1), 2);
        Due.is("of one that left", x.rank(0, 0), 0);
        Tapes.rule(x, 0, "-99f-99d-99l-99t-99c");
        Due.is("far below 0", x.rank(1, 0), -99L * (124 + 52 + 30 + 2 + 7));
        Tapes.rule(x, 0, "99f+99f");
        Due.is("of one that left, as by rules now", x.rank(0, 0), 2 * 99 * 4);
        int[][] wrong = {{-1, 0}, {2, 0}, {1000, 0}, {LOW, 0}, {HIGH, 1}, {0, -1}, {0, 2}, {0, LOW}, {0, HIGH}};
        for (int[] w : wrong) {
            Due.is("rank " + w[0] + " " + w[1], x.rank(w[0], w[1]), NO_RANK);
        }
    }

    private static void full() {
        TurnPort x = new TurnPort();
        int[][] wrong = {{0, 0}, {0, 25}, {0, -1}, {0, LOW}, {0, HIGH}, {1, -1}, {1, 3}, {1, LOW}, {1, HIGH},
            {-1, 1}, {2, 1}, {LOW, 1}, {HIGH, 1}};
        for (int[] w : wrong) {
            Due.is("full " + w[0] + " " + w[1], x.full(w[0], w[1]), TurnPort.BAD);
        }
        Due.is("room 24 at first", x.full(0, 1), 24);
        Due.is("room 1", x.full(0, 24), 1);
        Due.is("room 24", x.full(0, 24), 24);
        Due.is("drops 0 at first", x.full(1, 2), 0);
        Due.is("drops 2", x.full(1, 1), 2);
        Due.is("drops 1", x.full(1, 0), 1);
    }

    private static void states(TurnPort x, String name, int... due) {
        for (int w = 0; w < due.length; w++) {
            Due.is(name + ", word " + w, x.told(w, 0), due[w]);
        }
    }

    private static void dropsItself() {
        TurnPort x = new TurnPort();
        for (int i = 0; i < 25; i++) {
            Due.is("come", x.come(0, 1), i);
        }
        Due.is("24 wait", x.count(1), 24);
        Due.is("the 25th is dropped", x.told(24, 0), 3);
        x.full(0, 3);
        Due.is("those that wait stay", x.count(1), 24);
        x.come(1, 1);
        Due.is("one beyond is dropped", x.count(4), 2);
        Due.is("24 wait still", x.count(1), 24);
        x.ticks(21);
        Due.is("the one that is sent does not wait", x.count(1), 3);
        x.come(1, 1);
        Due.is("3 of 3: dropped", x.told(26, 0), 3);
        x.ticks(1);
        x.come(1, 1);
        Due.is("2 of 3: waits", x.told(27, 0), 0);
    }

    private static void dropsGreatest() {
        TurnPort x = new TurnPort();
        x.full(0, 3);
        x.full(1, 1);
        x.set(1, 4, 1);
        Tapes.rule(x, 0, "l");
        x.come(0, 5);
        x.come(1, 9);
        x.come(0, 9);
        x.come(0, 1);
        states(x, "of like ones the latest", 0, 0, 3, 0);
        x.come(1, 9);
        states(x, "it itself is the latest", 0, 0, 3, 0, 3);
        x.come(0, 2);
        states(x, "of another house", 0, 3, 3, 0, 3, 0);
        x.full(0, 1);
        x.come(0, 3);
        states(x, "only one by one that comes", 3, 3, 3, 0, 3, 0, 0);
        Due.is("three wait", x.count(1), 3);
        Tapes.rule(x, 0, "-l");
        x.come(0, 9);
        states(x, "by the new rule", 3, 3, 3, 3, 3, 0, 0, 0);
    }

    private static void dropsOfFullest() {
        TurnPort x = new TurnPort();
        x.full(0, 4);
        x.full(1, 2);
        x.come(3, 1);
        x.come(3, 1);
        x.come(5, 1);
        x.come(6, 1);
        x.come(5, 1);
        states(x, "of like ones the least stream", 0, 3, 0, 0, 0);
        x.come(6, 1);
        states(x, "5 and 6 have two", 0, 3, 0, 0, 3, 0);
        x.come(2, 1);
        states(x, "6 has two", 0, 3, 0, 0, 3, 3, 0);
        x.come(7, 1);
        states(x, "each has one: the least", 0, 3, 0, 0, 3, 3, 3, 0);
        x.come(7, 1);
        states(x, "it counted", 0, 3, 0, 0, 3, 3, 3, 0, 3);
    }

    /** House 0's first mark goes with its second word; then its first word is dropped. */
    private static void dropTakesMark() {
        TurnPort x = new TurnPort();
        x.set(1, 0, 1);
        x.set(1, 4, 1);
        Tapes.rule(x, 0, "-n-9c");
        x.come(0, 1);
        x.come(0, 1);
        x.ticks(1);
        Due.is("the second word went by the first mark", x.sent(0), 1);
        x.come(0, 1);
        x.come(1, 1);
        x.full(0, 3);
        x.full(1, 1);
        Due.is("the mark left in house 0 is of tick 0", x.next(), 2);
        x.come(0, 1);
        states(x, "the first has the greatest rank", 3, 2, 0, 0, 0);
        Due.is("house 0's mark of tick 0 stands", x.next(), 4);
        x.ticks(3);
        Due.is("by the mark of tick 0", x.sent(1), 4);
        Due.is("by house 0's mark that came ahead of house 1's", x.sent(2), 2);
        Due.is("house 1", x.sent(3), 3);
        Due.is("all left", x.count(1), 0);
    }
}
