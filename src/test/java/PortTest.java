/** Promises 10 to 15: the port. */
public final class PortTest {
    private static final int LOW = Integer.MIN_VALUE, HIGH = Integer.MAX_VALUE;

    public static void main(String[] args) {
        ticks();
        lastTick();
        next();
        likeRanks();
        houses();
        marksOutliveTheirWords();
        closedHouses();
        rootRuleAnew();
        counts();
        sent();
        late();
        behind();
        Due.end("PortTest");
    }

    private static void ticks() {
        TurnPort x = new TurnPort();
        int[] wrong = {0, -1, 501, LOW, HIGH};
        for (int n : wrong) {
            Due.is("ticks " + n, x.ticks(n), TurnPort.BAD);
        }
        Due.is("ticks 1", x.ticks(1), 1);
        Due.is("ticks 500", x.ticks(500), 501);
        x.come(0, 3);
        x.come(0, 2);
        x.ticks(2);
        Due.is("sent for 2 of 3", x.told(0, 0), 1);
        x.ticks(1);
        Due.is("sent for 3 of 3", x.told(0, 0), 2);
        Due.is("the other waits", x.told(1, 0), 0);
        Due.is("none is sent", x.count(2), 0);
        x.ticks(1);
        Due.is("from 504", x.told(1, 8), 504);
        x.ticks(1);
        Due.is("left", x.told(1, 0), 2);
    }

    private static void lastTick() {
        TurnPort x = new TurnPort();
        for (int i = 1; i < 200; i++) {
            Due.is("ticks", x.ticks(500), 500 * i);
        }
        Due.is("above 99999", x.ticks(500), TurnPort.FULL);
        Due.is("BAD ahead of FULL", x.ticks(501), TurnPort.BAD);
        Due.is("to 99999", x.ticks(499), 99999);
        Due.is("above 99999 by 1", x.ticks(1), TurnPort.FULL);
        Due.is("NOW", x.count(6), 99999);
        Due.is("a word can come", x.come(0, 1), 0);
    }

    private static void next() {
        TurnPort x = new TurnPort();
        x.set(0, 3, 5);
        x.come(0, 4);
        Due.is("it would be sent", x.next(), 0);
        Due.is("and waits still", x.count(1), 1);
        x.come(0, 4);
        x.ticks(1);
        Due.is("the other is not open", x.next(), TurnPort.NONE);
        x.ticks(4);
        Due.is("open at 5", x.next(), 1);
        x.ticks(1);
        Due.is("nothing waits", x.next(), TurnPort.NONE);
    }

    private static void likeRanks() {
        TurnPort x = new TurnPort();
        Tapes.rule(x, 0, "l");
        x.come(4, 7);
        x.come(2, 3);
        x.come(1, 3);
        x.come(0, 5);
        x.ticks(100);
        int[] due = {1, 2, 3, 0};
        for (int i = 0; i < due.length; i++) {
            Due.is("sent " + i, x.sent(i), due[i]);
        }
    }

    /** The root turns by class, each house by length. */
    private static void houses() {
        TurnPort x = new TurnPort();
        x.set(0, 4, 2);
        x.set(0, 0, 5);
        x.set(1, 4, 3);
        x.set(1, 0, 4);
        Tapes.rule(x, 0, "l");
        Tapes.rule(x, 1, "c");
        x.come(0, 9);
        x.come(0, 1);
        x.come(1, 8);
        x.come(1, 6);
        x.ticks(200);
        int[] due = {3, 2, 1, 0};
        for (int i = 0; i < due.length; i++) {
            Due.is("sent " + i, x.sent(i), due[i]);
        }
    }

    /** A mark is of a house: the house's least word goes by the mark that another one brought. */
    private static void marksOutliveTheirWords() {
        TurnPort x = new TurnPort();
        x.set(1, 4, 1);
        Tapes.rule(x, 0, "-t");
        x.come(0, 1);
        x.set(2, 3, 0);
        x.come(1, 1);
        x.come(0, 1);
        Due.is("by word 0's mark", x.next(), 0);
        x.ticks(1);
        x.come(0, 1);
        Due.is("house 1's mark came ahead", x.next(), 1);
        x.ticks(1);
        Due.is("house 0's latest by word 2's mark", x.next(), 3);
        x.ticks(1);
        x.come(1, 1);
        Due.is("word 2 by word 3's mark, of tick 1", x.next(), 2);
        Tapes.rule(x, 1, "-t");
        Due.is("house 1 by the new root rule", x.next(), 4);
        x.ticks(2);
        Due.is("all left", x.count(3), 5);
    }

    private static void closedHouses() {
        TurnPort x = new TurnPort();
        x.set(0, 3, 50);
        x.set(1, 4, 1);
        x.come(0, 1);
        x.come(0, 1);
        x.ticks(2);
        x.come(1, 1);
        Due.is("house 0 has no open word", x.next(), 2);
        x.come(2, 1);
        Due.is("house 0's early mark goes for its open word", x.next(), 3);
        x.ticks(2);
        Due.is("then house 1", x.sent(2), 2);
        x.ticks(50);
        Due.is("from its gate on", x.told(1, 8), 50);
    }

    private static void rootRuleAnew() {
        TurnPort x = new TurnPort();
        x.set(1, 4, 1);
        x.come(0, 9);
        x.come(0, 2);
        x.come(1, 5);
        Tapes.rule(x, 0, "l");
        x.ticks(2);
        Due.is("word 1 left by word 0's mark", x.sent(0), 1);
        Tapes.rule(x, 1, "l");
        Due.is("the mark that is there came with length 2", x.next(), 0);
        Tapes.rule(x, 1, "-l");
        Due.is("so by -l house 1 is first", x.next(), 2);
    }

    private static void counts() {
        TurnPort x = new TurnPort();
        x.set(1, 3, 9);
        x.full(0, 3);
        x.come(1, 2);
        x.come(1, 2);
        x.come(0, 2);
        x.come(0, 2);
        int[] first = {4, 3, 0, 0, 1, 2, 0, 0};
        for (int what = 0; what < 8; what++) {
            Due.is("count " + what, x.count(what), first[what]);
        }
        x.ticks(3);
        int[] then = {4, 1, 1, 1, 1, 0, 3, 32};
        for (int what = 0; what < 8; what++) {
            Due.is("count " + what, x.count(what), then[what]);
        }
        int[] wrong = {-1, 8, LOW, HIGH};
        for (int what : wrong) {
            Due.is("count " + what, x.count(what), TurnPort.BAD);
        }
    }

    private static void sent() {
        TurnPort x = new TurnPort();
        Due.is("none yet", x.sent(0), TurnPort.NONE);
        x.come(0, 3);
        Due.is("it waits", x.sent(0), TurnPort.NONE);
        x.ticks(1);
        Due.is("it is sent", x.sent(0), 0);
        Due.is("the next was not", x.sent(1), TurnPort.NONE);
        Due.is("999", x.sent(999), TurnPort.NONE);
        Due.is("HIGH", x.sent(HIGH), TurnPort.NONE);
        Due.is("-1", x.sent(-1), TurnPort.BAD);
        Due.is("LOW", x.sent(LOW), TurnPort.BAD);
    }

    private static void late() {
        TurnPort x = new TurnPort();
        x.set(0, 2, 4);
        x.come(0, 3);
        x.come(0, 3);
        x.full(0, 1);
        x.come(0, 3);
        x.set(0, 2, 900);
        Due.is("waits", x.late(0), -100004);
        x.ticks(2);
        Due.is("is sent", x.late(0), -100004);
        x.ticks(1);
        Due.is("left at 3", x.late(0), -1);
        x.ticks(20);
        Due.is("left at 6", x.late(1), 2);
        Due.is("dropped", x.late(2), -100004);
        int[] wrong = {-1, 3, 1000, LOW, HIGH};
        for (int word : wrong) {
            Due.is("late " + word, x.late(word), -100001);
        }
    }

    private static void behind() {
        TurnPort x = new TurnPort();
        Tapes.rule(x, 0, "l");
        x.come(0, 9);
        x.come(0, 3);
        x.come(0, 5);
        x.come(0, 1);
        Due.is("not sent yet", x.behind(0, -1), TurnPort.NOT);
        Due.is("BAD ahead of NOT", x.behind(0, -2), TurnPort.BAD);
        x.ticks(10);
        Due.is("word 0 is sent now", x.told(0, 0), 1);
        Due.is("behind three", x.behind(0, -1), 3);
        int[] due = {3, 1, 2};
        for (int i = 0; i < due.length; i++) {
            Due.is("behind 0 " + i, x.behind(0, i), due[i]);
        }
        Due.is("no fourth", x.behind(0, 3), TurnPort.NONE);
        Due.is("no such", x.behind(0, HIGH), TurnPort.NONE);
        Due.is("LOW", x.behind(0, LOW), TurnPort.BAD);
        Due.is("word 1 behind 3", x.behind(1, -1), 1);
        Due.is("it is 3", x.behind(1, 0), 3);
        Due.is("word 2 behind 3, not 1", x.behind(2, -1), 1);
        Due.is("word 3 behind none", x.behind(3, -1), 0);
        Due.is("word 3 behind none", x.behind(3, 0), TurnPort.NONE);
        x.full(0, 1);
        x.come(0, 1);
        x.come(0, 1);
        Due.is("dropped", x.behind(5, -1), TurnPort.NOT);
        int[] wrong = {-1, 6, 1000, LOW, HIGH};
        for (int word : wrong) {
            Due.is("behind " + word, x.behind(word, -1), TurnPort.BAD);
        }
    }
}
