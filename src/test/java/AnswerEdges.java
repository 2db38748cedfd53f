import java.util.ArrayList;
import java.util.List;
import java.util.function.ToLongFunction;

/** Terms, the answers below 0: which of several comes first, and that they change nothing. */
final class AnswerEdges {
    private static final int BAD = TurnPort.BAD, NOT = TurnPort.NOT, FULL = TurnPort.FULL, NONE = TurnPort.NONE,
        NULL = TurnPort.NULL, CAST = TurnPort.CAST, INDEX = TurnPort.INDEX, SIZE = TurnPort.SIZE;

    private AnswerEdges() {
    }

    static void run() {
        firstOfSeveral();
        comesFirst();
        rowsFirst();
        sheetsFirst();
        changesNothing();
    }

    private static void firstOfSeveral() {
        Said.says("Answers below 0, of several the first that a call names: BAD -1 (a number is not as told, there is no such thing), "
            + "NOT -2 (as told), FULL -3, NONE -4 (as told); "
            + "what the machine finds: NULL -11, CAST -12, INDEX -13, SIZE -14, in this order.");
        int[] due = {-1, -2, -3, -4, -11, -12, -13, -14};
        int[] are = {BAD, NOT, FULL, NONE, NULL, CAST, INDEX, SIZE};
        for (int i = 0; i < due.length; i++) {
            Due.is("constant " + i, are[i], due[i]);
        }
        TurnPort x = new TurnPort();
        x.come(0, 1);
        Due.is("behind: BAD ahead of NOT", x.behind(0, -2), BAD);
        Due.is("behind: NOT ahead of NONE", x.behind(0, 7), NOT);
        x.set(0, 6, 16);
        x.set(1, 0, 1);
        Due.is("promise: NONE", x.promise(1, 1), NONE);
        Due.is("promise: BAD ahead of NONE", x.promise(1, 0), BAD);
        Due.is("told: BAD ahead of NONE", x.told(1, 8), BAD);
        Tapes.type(x, " ".repeat(40));
        Due.is("type: FULL", x.type(0x63, 1), FULL);
        Due.is("type: BAD, a byte, ahead of FULL", x.type(0x1f, 1), BAD);
        Due.is("type: BAD, n, ahead of FULL", x.type(0x63, 9), BAD);
        Due.is("rule: BAD ahead of a fault", x.rule(2), BAD);
        Due.is("rule: a fault", x.rule(1), -60);
        TurnPort y = new TurnPort();
        for (int i = 0; i < 199; i++) {
            y.ticks(500);
        }
        y.ticks(499);
        Due.is("ticks: FULL", y.ticks(500), FULL);
        Due.is("ticks: BAD ahead of FULL", y.ticks(501), BAD);
    }

    /** 1000 words came; sheet 0 has a wrong word and a good one, sheet 1 holds nothing. */
    private static void comesFirst() {
        TurnPort x = new TurnPort();
        Rows.put(x, 3, 0, 0, 1, 0, 1, 0, 1, 0, 1, 0, 1, 0, 1, 0, 1, 0, 1, 0, 1, 0, 1);
        for (int i = 0; i < 100; i++) {
            x.comes(3, 0, 0, 10);
        }
        Rows.put(x, 0, 0, 9, 1, 0, 1);
        Due.is("come: FULL", x.come(0, 1), FULL);
        Due.is("come: BAD ahead of FULL", x.come(0, 100), BAD);
        int[][] calls = {{4, 3, -1, 13, BAD}, {1, 3, -1, 1, BAD}, {1, 0, -1, 13, BAD}, {0, 3, -1, 1, BAD}, {0, 1, -1, 13, BAD},
            {0, 0, -1, 13, BAD}, {0, 0, 0, 13, BAD}, {0, 0, 0, -1, BAD}, {1, 1, -1, 1, NULL}, {1, 0, 0, 1, NULL},
            {0, 1, -1, 1, CAST}, {0, 1, 0, 1, CAST}, {0, 0, -1, 1, INDEX}, {0, 0, 0, 3, INDEX}, {0, 0, 3, 1, INDEX},
            {0, 0, 0, 1, NOT}, {0, 0, 0, 2, NOT}, {0, 0, 2, 1, FULL}};
        for (int[] c : calls) {
            Due.is("comes " + c[0] + " " + c[1] + " " + c[2] + " " + c[3], x.comes(c[0], c[1], c[2], c[3]), c[4]);
        }
    }

    /** Sheet 0 is of bytes 40, 0, 1: neither a rank nor a word; 0 and 1 are words that wait. */
    private static void rowsFirst() {
        TurnPort x = new TurnPort();
        x.come(0, 1);
        x.come(0, 1);
        Rows.put(x, 0, 0, 40, 0, 1);
        int[][] calls = {{4, 3, -1, 99, BAD}, {1, 3, -1, 2, BAD}, {1, 0, -1, 99, BAD}, {0, 3, -1, 2, BAD}, {0, 1, -1, 99, BAD},
            {0, 0, -1, 99, BAD}, {0, 0, 0, 0, BAD}, {1, 1, -1, 2, NULL}, {0, 1, -1, 2, CAST}, {0, 1, 0, 2, CAST},
            {0, 0, -1, 2, INDEX}, {0, 0, 0, 4, INDEX}, {0, 0, 2, 2, INDEX}, {0, 0, 0, 2, NOT}, {0, 0, 1, 2, 0}};
        for (int[] c : calls) {
            String name = " " + c[0] + " " + c[1] + " " + c[2] + " " + c[3];
            Due.is("heaps" + name, x.heaps(c[0], c[1], c[2], c[3], 1), c[4]);
            Due.is("heaps" + name + " by 3", x.heaps(c[0], c[1], c[2], c[3], 3), BAD);
            Due.is("cut" + name, x.cut(c[0], c[1], c[2], c[3], 1), c[4]);
            Due.is("cut" + name + " by 9", x.cut(c[0], c[1], c[2], c[3], 9), BAD);
            Due.is("found" + name, x.found(c[0], c[1], c[2], c[3]), c[4] == 0 ? 11 : c[4]);
            Due.is("order" + name, x.order(c[0], c[1], c[2], c[3], -1), c[4]);
            Due.is("order" + name + " at -2", x.order(c[0], c[1], c[2], c[3], -2), BAD);
            Due.is("order" + name + " at 4", x.order(c[0], c[1], c[2], c[3], 4), BAD);
        }
        Rows.put(x, 2, 0, 1, 0, 0);
        Due.is("found: NONE", x.found(2, 0, 0, 2), NONE);
        Due.is("found: NOT ahead of NONE", x.found(2, 0, 0, 3), NOT);
    }

    private static void sheetsFirst() {
        TurnPort x = new TurnPort();
        x.sheet(0, 0, 2);
        x.sheet(2, 2, 2);
        Due.is("sheet: BAD, the sheet, ahead of SIZE", x.sheet(4, 0, -1), BAD);
        Due.is("sheet: BAD, the lane, ahead of SIZE", x.sheet(0, 3, -1), BAD);
        Due.is("sheet: SIZE", x.sheet(0, 0, -1), SIZE);
        int[][] items = {{4, 3, -1, BAD}, {1, 3, -1, BAD}, {0, 3, -1, BAD}, {1, 1, -1, NULL}, {0, 1, -1, CAST}, {0, 0, -1, INDEX}};
        for (int[] c : items) {
            Due.is("item " + c[0] + " " + c[1] + " " + c[2], x.item(c[0], c[1], c[2], 1), c[3]);
        }
        int[][] copies = {{4, -1, 1, -1, -1, BAD}, {1, -1, 4, -1, -1, BAD}, {0, -1, -1, -1, -1, BAD}, {1, -1, 0, -1, -1, NULL},
            {0, -1, 1, -1, -1, NULL}, {0, -1, 2, -1, -1, CAST}, {2, -1, 0, 0, 0, CAST}, {0, -1, 0, 0, 0, INDEX}};
        for (int[] c : copies) {
            Due.is("copy " + c[0] + " " + c[2], x.copy(c[0], c[1], c[2], c[3], c[4]), c[5]);
        }
    }

    /** Words that left, are sent, wait open and closed, were dropped; two rules, a tape, three rows. */
    static TurnPort busy() {
        TurnPort x = new TurnPort();
        Tapes.rule(x, 0, "l-n");
        Tapes.rule(x, 1, "d+c");
        for (int s = 0; s < 4; s++) {
            x.set(s, 0, 3 - s);
            x.set(s, 1, 1 + s);
            x.set(s, 2, 10 * s);
            x.set(s, 3, 7 - s);
            x.set(s, 4, s / 2);
            x.set(s, 5, 20 + s);
            x.set(s, 6, s);
        }
        x.full(0, 6);
        x.full(1, 2);
        for (int i = 0; i < 8; i++) {
            x.come(i % 4, 3 + i % 3);
        }
        x.ticks(5);
        x.come(0, 2);
        Rows.put(x, 0, 0, 9, 3, 30, 1, 0, 2);
        Rows.put(x, 1, 2, 7, 2, 4, 6);
        Rows.put(x, 2, 1, 1, 5, 2, 6);
        Tapes.type(x, "4c-");
        return x;
    }

    private static void lookAtWords(TurnPort x, List<Long> seen) {
        for (int w = 0; w < 9; w++) {
            for (int what = 0; what < 10; what++) {
                seen.add((long) x.told(w, what));
            }
            seen.add(x.rank(w, 0));
            seen.add(x.rank(w, 1));
            seen.add((long) x.late(w));
            seen.add((long) x.behind(w, -1));
            seen.add((long) x.behind(w, 0));
        }
        for (int what = 0; what < 8; what++) {
            seen.add((long) x.count(what));
        }
        for (int i = 0; i < 4; i++) {
            seen.add((long) x.sent(i));
        }
        seen.add((long) x.next());
    }

    /** All that can be seen of an object; it is used up by that. */
    private static List<Long> all(TurnPort x) {
        List<Long> seen = new ArrayList<>();
        lookAtWords(x, seen);
        for (int s = 0; s < 8; s++) {
            seen.add((long) x.promise(s, 5));
            seen.add((long) x.taken(s));
            seen.add((long) x.lags(s));
        }
        for (int k = 1; k <= 8; k++) {
            seen.add((long) x.heaps(0, 0, 0, 6, k));
            seen.add((long) x.cut(0, 0, 0, 6, k));
        }
        seen.add((long) x.found(1, 2, 0, 4));
        for (int what = -1; what < 2; what++) {
            seen.add((long) x.order(1, 2, 0, 2, what));
        }
        seen.add((long) x.comes(2, 1, 0, 2));
        seen.add((long) x.type(0x63, 1));
        seen.add((long) x.rule(1));
        seen.add((long) x.come(0, 1));
        for (int w = 9; w < 12; w++) {
            for (int what = 0; what < 10; what++) {
                seen.add((long) x.told(w, what));
            }
            seen.add(x.rank(w, 1));
        }
        seen.add((long) x.ticks(90));
        for (int i = 0; i < 12; i++) {
            seen.add((long) x.sent(i));
        }
        for (int s = 0; s < 4; s++) {
            seen.add((long) x.drop(s));
        }
        seen.add((long) x.full(0, 1));
        seen.add((long) x.full(1, 0));
        for (int s = 0; s < 8; s++) {
            for (int what = 0; what < 7; what++) {
                seen.add((long) x.set(s, what, 1));
            }
        }
        return seen;
    }

    private static void nothing(String name, long due, ToLongFunction<TurnPort> call) {
        TurnPort x = busy();
        Due.is(name, call.applyAsLong(x), due);
        unchanged(name, x);
    }

    /** An object is still as busy() made it. */
    static void unchanged(String name, TurnPort x) {
        Due.holds(name + " changes nothing", all(x).equals(all(busy())));
    }

    private static void changesNothing() {
        Said.says("What answers so changes nothing, but as told.");
        Due.holds("a change is seen", !all(changed(0)).equals(all(busy())));
        Due.holds("another one is", !all(changed(1)).equals(all(busy())));
        nothing("set, stream", BAD, x -> x.set(8, 0, 1));
        nothing("set, what", BAD, x -> x.set(0, 7, 1));
        for (int what = 0; what < 7; what++) {
            int which = what;
            nothing("set, v, " + what, BAD, x -> x.set(0, which, -1));
            nothing("set, v, " + what, BAD, x -> x.set(0, which, 1000));
        }
        nothing("come, stream", BAD, x -> x.come(8, 1));
        nothing("come, length", BAD, x -> x.come(0, 100));
        nothing("comes, none", NONE, x -> x.comes(2, 1, 0, 0));
        nothing("comes, n", BAD, x -> x.comes(2, 1, 0, 13));
        nothing("comes, NULL", NULL, x -> x.comes(3, 1, 0, 1));
        nothing("comes, CAST", CAST, x -> x.comes(2, 2, 0, 1));
        nothing("comes, INDEX", INDEX, x -> x.comes(2, 1, 0, 3));
        nothing("comes, NOT", NOT, x -> x.comes(0, 0, 1, 2));
        nothing("type, n", BAD, x -> x.type(0x63, 9));
        nothing("type, a byte", BAD, x -> x.type(0x6300, 2));
        nothing("rule", BAD, x -> x.rule(2));
        nothing("told", BAD, x -> x.told(0, 10));
        nothing("rank", -1099511627777L, x -> x.rank(99, 0));
        nothing("full, ROOM", BAD, x -> x.full(0, 25));
        nothing("full, DROPS", BAD, x -> x.full(1, 3));
        nothing("full, what", BAD, x -> x.full(2, 1));
        nothing("ticks", BAD, x -> x.ticks(501));
        nothing("ticks", BAD, x -> x.ticks(0));
        nothing("late", -100001, x -> x.late(99));
        nothing("behind", BAD, x -> x.behind(99, 0));
        changesNothingOfRows();
    }

    private static void changesNothingOfRows() {
        nothing("promise", BAD, x -> x.promise(8, 1));
        nothing("lags", -100001, x -> x.lags(8));
        nothing("heaps", BAD, x -> x.heaps(2, 1, 0, 4, 3));
        nothing("cut", INDEX, x -> x.cut(0, 0, 0, 7, 8));
        nothing("found", NOT, x -> x.found(0, 0, 0, 6));
        nothing("order", NOT, x -> x.order(0, 0, 0, 6, 0));
        nothing("sheet", BAD, x -> x.sheet(4, 0, 1));
        nothing("sheet, lane", BAD, x -> x.sheet(0, 3, 1));
        nothing("sheet, n", BAD, x -> x.sheet(0, 0, 25));
        nothing("sheet, SIZE", SIZE, x -> x.sheet(0, 0, -1));
        nothing("drop", BAD, x -> x.drop(4));
        nothing("drop, NULL", NULL, x -> x.drop(3));
        nothing("item", BAD, x -> x.item(0, 3, 0, 1));
        nothing("item, NULL", NULL, x -> x.item(3, 0, 0, 1));
        nothing("item, CAST", CAST, x -> x.item(0, 1, 0, 1));
        nothing("item, INDEX", INDEX, x -> x.item(0, 0, 6, 1));
        nothing("copy", BAD, x -> x.copy(0, 0, 4, 0, 1));
        nothing("copy, NULL", NULL, x -> x.copy(0, 0, 3, 0, 1));
        nothing("copy, CAST", CAST, x -> x.copy(0, 0, 1, 0, 1));
        nothing("copy, INDEX", INDEX, x -> x.copy(0, 0, 0, 1, 6));
    }

    private static TurnPort changed(int how) {
        TurnPort x = busy();
        if (how == 0) {
            x.item(1, 2, 0, 8);
        } else {
            x.type(0x20, 1);
        }
        return x;
    }
}
