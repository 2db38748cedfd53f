/** Terms, section 2, full ports; promise 9. */
final class DropEdges {
    private static final int BAD = TurnPort.BAD;

    private DropEdges() {
    }

    static void run() {
        room();
        sentOnesDoNot();
        dropsItself();
        dropsGreatest();
        dropsOfFullest();
        markThatCameWithIt();
        latestMarkOfItsHouse();
        nothingBack();
        full();
    }

    private static void are(String name, TurnPort x, int... due) {
        for (int w = 0; w < due.length; w++) {
            Due.is(name + ": word " + w + " is", x.told(w, 0), due[w]);
        }
    }

    private static void turns(String name, TurnPort x, int... due) {
        x.ticks(500);
        for (int i = 0; i < due.length; i++) {
            Due.is(name + ": turn " + i, x.sent(i), due[i]);
        }
        Due.is(name + ": no more turns", x.sent(due.length), TurnPort.NONE);
        Due.is(name + ": nothing waits", x.count(1), 0);
    }

    private static void room() {
        Said.says("ROOM is 1 .. 24 (24 at first): so many WORDS wait at most");
        Span.bounds("ROOM", 1, 24, BAD, v -> new TurnPort().full(0, v));
        Due.is("24 at first", new TurnPort().full(0, 24), 24);
        for (int room = 1; room <= 24; room++) {
            TurnPort x = new TurnPort();
            x.full(0, room);
            for (int i = 0; i < room; i++) {
                x.come(0, 1);
            }
            Due.is("as many wait as the room is", x.count(1), room);
            Due.is("none was dropped", x.count(4), 0);
            x.come(0, 1);
            Due.is("one more does not wait", x.count(1), room);
            Due.is("one was dropped", x.count(4), 1);
        }
        TurnPort y = Rows.readable();
        Due.is("24 wait at first", y.count(1), 24);
        y.come(0, 1);
        Due.is("not 25", y.count(1), 24);
    }

    private static void sentOnesDoNot() {
        Said.says("(SENT ones do not; those that wait already stay when it becomes less).");
        TurnPort x = new TurnPort();
        x.full(0, 2);
        x.come(0, 9);
        x.come(0, 9);
        x.ticks(1);
        x.come(0, 9);
        are("one is sent, two wait", x, 1, 0, 0);
        x.come(0, 9);
        are("three do not", x, 1, 0, 0, 3);
        TurnPort y = new TurnPort();
        for (int i = 0; i < 3; i++) {
            y.come(0, 1);
        }
        y.full(0, 1);
        are("those that wait stay", y, 0, 0, 0);
        y.full(1, 1);
        y.come(0, 1);
        are("by one that comes one goes, not three", y, 0, 0, 0, 3);
        y.ticks(2);
        y.come(0, 1);
        are("one waits: there is no room for two", y, 2, 2, 0, 3, 3);
        y.ticks(1);
        y.come(0, 1);
        are("none waits: there is room", y, 2, 2, 2, 3, 3, 0);
    }

    private static void dropsItself() {
        Said.says("By one that comes beyond that one is DROPPED: by DROPS 0 it itself (at first);");
        TurnPort x = new TurnPort();
        x.full(0, 2);
        Tapes.rule(x, 0, "l");
        x.come(1, 9);
        x.come(1, 9);
        x.come(0, 1);
        are("it itself, though of least rank and of another stream", x, 0, 0, 3);
        Due.is("DROPS 0 at first", x.full(1, 0), 0);
        x.come(0, 1);
        are("it itself", x, 0, 0, 3, 3);
        turns("the others go", x, 0, 1);
    }

    private static void dropsGreatest() {
        Said.says("1: of all that wait and it that of greatest RANK in its HOUSE (of like ones the latest to come);");
        TurnPort x = new TurnPort();
        x.full(0, 3);
        x.full(1, 1);
        x.set(1, 4, 1);
        Tapes.rule(x, 0, "l");
        Tapes.rule(x, 1, "-l");
        x.come(0, 7);
        x.come(1, 8);
        x.come(0, 6);
        x.come(0, 5);
        are("the greatest of all houses, by the houses' rule", x, 0, 3, 0, 0);
        x.come(1, 7);
        are("it is like the greatest, and the latest", x, 0, 3, 0, 0, 3);
        x.come(1, 8);
        are("it is the greatest", x, 0, 3, 0, 0, 3, 3);
        x.come(0, 6);
        are("it is not", x, 3, 3, 0, 0, 3, 3, 0);
        x.come(0, 1);
        are("of two like ones the latest to come", x, 3, 3, 0, 0, 3, 3, 3, 0);
        Tapes.rule(x, 0, "-9l");
        x.come(0, 9);
        are("ranks below 0: the greatest is of length 1", x, 3, 3, 0, 0, 3, 3, 3, 3, 0);
    }

    private static void dropsOfFullest() {
        Said.says("2: of the STREAM with the most that wait, it counted, (of like ones the least STREAM) the latest to come.");
        TurnPort x = new TurnPort();
        x.full(0, 4);
        x.full(1, 2);
        x.come(6, 1);
        x.come(5, 1);
        x.come(6, 1);
        x.come(7, 1);
        x.come(0, 1);
        are("6 has the most: its latest, not its first", x, 0, 0, 3, 0, 0);
        x.come(7, 1);
        are("7 has the most, it counted", x, 0, 0, 3, 0, 0, 3);
        x.come(5, 1);
        are("so has 5 now", x, 0, 0, 3, 0, 0, 3, 3);
        x.come(3, 1);
        are("all like: the least stream", x, 0, 0, 3, 0, 3, 3, 3, 0);
        x.come(0, 1);
        are("it may be its own", x, 0, 0, 3, 0, 3, 3, 3, 0, 3);
        for (int s = 0; s < 8; s++) {
            fullestIs(s);
        }
        TurnPort y = new TurnPort();
        y.full(1, 2);
        y.full(0, 4);
        int[] streams = {3, 2, 2, 3, 1};
        for (int s : streams) {
            y.come(s, 1);
        }
        are("2 and 3 have two each: 2's latest", y, 0, 0, 3, 0, 0);
        y.ticks(1);
        y.come(4, 1);
        y.come(4, 1);
        are("the one that left does not count: 4 has two, 3 has one", y, 2, 0, 3, 0, 0, 0, 3);
    }

    private static void fullestIs(int stream) {
        TurnPort x = new TurnPort();
        x.full(1, 2);
        x.full(0, 2);
        x.come(stream, 1);
        x.come((stream + 3) % 8, 1);
        x.come(stream, 1);
        are("stream " + stream + " has two", x, 0, 0, 3);
        x.come((stream + 5) % 8, 1);
        int least = Math.min(stream, Math.min((stream + 3) % 8, (stream + 5) % 8));
        are("each has one: the least", x, least == stream ? 3 : 0, least == (stream + 3) % 8 ? 3 : 0, 3,
            least == (stream + 5) % 8 ? 3 : 0);
    }

    /** Word 1 (house 0, tick 1) is dropped while its mark is there, and another one of its house. */
    private static void markThatCameWithIt() {
        Said.says("(With it goes the MARK that came with it, if that is there,");
        TurnPort x = new TurnPort();
        x.set(1, 4, 1);
        x.full(0, 3);
        x.full(1, 1);
        x.come(7, 20);
        int[] streams = {0, 1, 0};
        for (int s : streams) {
            x.ticks(1);
            x.come(s, 1);
        }
        Due.is("house 0's mark of tick 1", x.next(), 1);
        Tapes.rule(x, 0, "-t");
        x.ticks(1);
        x.come(1, 1);
        are("the greatest is the earliest", x, 1, 3, 0, 0, 0);
        Due.is("house 0's mark is of tick 3, house 1's of tick 2", x.next(), 4);
        turns("the mark of tick 1 went", x, 0, 4, 3, 2);
        TurnPort y = new TurnPort();
        y.set(1, 4, 1);
        y.full(0, 2);
        y.come(0, 1);
        y.come(1, 1);
        y.come(0, 1);
        turns("its own mark went with the one that came", y, 0, 1);
    }

    /** House 0's mark of tick 1 has gone with word 2; then word 1 is dropped. */
    private static void latestMarkOfItsHouse() {
        Said.says("else the latest one of its HOUSE.)");
        TurnPort x = new TurnPort();
        x.set(1, 4, 1);
        Tapes.rule(x, 0, "-t");
        x.come(7, 3);
        int[] streams = {0, 0};
        for (int s : streams) {
            x.ticks(1);
            x.come(s, 9);
        }
        x.ticks(2);
        are("word 2 went by word 1's mark", x, 2, 0, 1);
        int[] then = {1, 0};
        for (int s : then) {
            x.come(s, 1);
            x.ticks(1);
        }
        x.full(0, 3);
        x.full(1, 1);
        x.come(1, 1);
        are("word 1 is of greatest rank", x, 2, 3, 1, 0, 0, 0);
        Due.is("house 0 has its mark of tick 2, not that of tick 5", x.next(), 4);
        x.ticks(1);
        x.full(0, 24);
        x.come(0, 1);
        turns("marks are of 2, 4, 6 and 7: of houses 0, 1, 1, 0", x, 0, 2, 6, 5, 3, 4);
        onlyMarkOfItsHouse();
        markGoneWhenAllIsFull();
    }

    /** House 0's one mark, of tick 2, goes with word 1, whose own has gone with word 2. */
    private static void onlyMarkOfItsHouse() {
        TurnPort x = new TurnPort();
        x.set(1, 4, 1);
        Tapes.rule(x, 0, "-t");
        x.come(7, 3);
        x.ticks(1);
        x.come(0, 9);
        x.ticks(1);
        x.come(0, 9);
        x.ticks(2);
        x.full(0, 1);
        x.full(1, 1);
        x.come(1, 1);
        are("word 1 is of greatest rank", x, 2, 3, 1, 0);
        x.full(0, 24);
        x.ticks(1);
        x.come(0, 1);
        Due.is("house 0 has but the mark of tick 5", x.next(), 3);
        turns("house 1 goes first", x, 0, 2, 3, 4);
    }

    /** 24 wait, one more comes, and the first, whose mark has gone with the second, is dropped. */
    private static void markGoneWhenAllIsFull() {
        TurnPort x = new TurnPort();
        Tapes.rule(x, 0, "-n");
        x.full(1, 1);
        x.come(0, 1);
        x.come(0, 50);
        x.ticks(1);
        are("the second went by the first one's mark", x, 0, 1);
        for (int i = 0; i < 23; i++) {
            x.come(0, 1);
        }
        Due.is("24 wait", x.count(1), 24);
        Due.is("none was dropped", x.count(4), 0);
        x.come(0, 1);
        Due.is("24 wait still", x.count(1), 24);
        Due.is("the first was dropped", x.told(0, 0), 3);
        x.ticks(49 + 23);
        Due.is("one is left to go", x.count(1), 1);
        x.ticks(1);
        Due.is("as many marks as words: all left", x.count(3), 25);
    }

    private static void nothingBack() {
        Said.says("DROPPED ones change nothing back.");
        TurnPort x = new TurnPort();
        x.set(0, 3, 10);
        x.full(0, 1);
        x.come(0, 2);
        x.come(0, 3);
        are("the second is dropped", x, 0, 3);
        x.ticks(2);
        Due.is("the number goes on", x.come(0, 4), 2);
        Due.is("END goes on", x.told(2, 4), 16 * 9);
        Due.is("GATE goes on", x.told(2, 5), 20);
        Due.is("n goes on", x.told(2, 7), 2);
        Due.is("nothing is taken by it", x.taken(0), 2);
    }

    private static void full() {
        Said.says("`int full(int what, int v)`: ROOM (0), DROPS (1): what it was. BAD.");
        Span.bounds("full, what", 0, 1, BAD, what -> new TurnPort().full(what, 1));
        Span.bounds("DROPS", 0, 2, BAD, v -> new TurnPort().full(1, v));
        TurnPort x = new TurnPort();
        int[][] calls = {{0, 1, 24}, {1, 2, 0}, {0, 24, 1}, {1, 0, 2}, {0, 0, BAD}, {1, 3, BAD}, {0, 25, BAD}, {1, -1, BAD},
            {0, 7, 24}, {1, 1, 0}, {0, 7, 7}, {1, 1, 1}};
        for (int[] c : calls) {
            Due.is("full " + c[0] + " " + c[1], x.full(c[0], c[1]), c[2]);
        }
    }
}
