/** Promises 16 to 22: promises, heaps, rules found, orders. */
public final class PlansTest {
    private static final int LOW = Integer.MIN_VALUE, HIGH = Integer.MAX_VALUE;

    public static void main(String[] args) {
        promise();
        taken();
        lags();
        heaps();
        cut();
        ranksWrong();
        found();
        foundTwoTerms();
        order();
        orderWrong();
        Due.end("PlansTest");
    }

    private static void promise() {
        TurnPort x = new TurnPort();
        Due.is("alone", x.promise(0, 99), 99);
        int[][] told = {{0, 2, 10, 3}, {1, 2, 20, 4}, {2, 1, 7, 5}, {3, 5, 999, 4}};
        for (int[] t : told) {
            x.set(t[0], 0, t[1]);
            x.set(t[0], 5, t[2]);
            x.set(t[0], 6, t[3]);
        }
        Due.is("class 0 has no bursts", x.promise(7, 1), 1);
        Due.is("class 1: 16 (7 + 5) by 16", x.promise(2, 5), 12);
        Due.is("class 2: 16 (37 + 5) by 11, higher", x.promise(0, 5), 62);
        Due.is("class 2, the other", x.promise(1, 5), 62);
        Due.is("class 2: 16 (37 + 7) by 11, whole", x.promise(1, 7), 64);
        Due.is("class 5: rates 16 together, 12 below", x.promise(3, 99), 4540);
        x.set(4, 6, 1);
        Due.is("rates 17 together", x.promise(3, 99), TurnPort.NONE);
        Due.is("a lesser class keeps its own", x.promise(0, 5), 68);
        x.set(4, 6, 4);
        Due.is("lesser ones 16, own 0", x.set(3, 6, 0), 4);
        Due.is("lesser ones 16", x.promise(3, 9), TurnPort.NONE);
        int[][] wrong = {{-1, 5}, {8, 5}, {LOW, 5}, {HIGH, 5}, {0, 0}, {0, 100}, {0, LOW}, {0, HIGH}, {3, 0}};
        for (int[] w : wrong) {
            Due.is("promise " + w[0] + " " + w[1], x.promise(w[0], w[1]), TurnPort.BAD);
        }
    }

    private static void taken() {
        TurnPort x = new TurnPort();
        x.come(2, 5);
        x.come(2, 7);
        x.come(3, 4);
        x.ticks(11);
        Due.is("only what left", x.taken(2), 5);
        x.ticks(1);
        Due.is("both", x.taken(2), 12);
        Due.is("nothing yet", x.taken(3), 0);
        x.ticks(4);
        Due.is("then", x.taken(3), 4);
        int[] wrong = {-1, 8, LOW, HIGH};
        for (int s : wrong) {
            Due.is("taken " + s, x.taken(s), TurnPort.BAD);
        }
    }

    private static void lags() {
        TurnPort x = new TurnPort();
        x.set(0, 1, 3);
        x.set(1, 1, 2);
        x.set(2, 1, 9);
        Due.is("took and waits nothing", x.lags(0), -100004);
        x.come(0, 10);
        Due.is("waits, nothing taken", x.lags(0), 0);
        x.ticks(5);
        Due.is("is sent: neither took nor waits", x.lags(0), -100004);
        x.ticks(5);
        Due.is("alone", x.lags(0), 0);
        x.come(1, 7);
        Due.is("1 waits: (2 * 10 - 0) by 5", x.lags(1), 4);
        Due.is("0: (3 * 10 - 5 * 10) by 5", x.lags(0), -4);
        x.ticks(7);
        Due.is("1: (2 * 17 - 5 * 7) by 5, lower", x.lags(1), -1);
        Due.is("0: (3 * 17 - 5 * 10) by 5, lower", x.lags(0), 0);
        Due.is("2 takes no part", x.lags(2), -100004);
        x.come(2, 1);
        Due.is("2: 9 * 17 by 14, lower", x.lags(2), 10);
        Due.is("0: (51 - 140) by 14, lower", x.lags(0), -7);
        x.set(2, 1, 1);
        Due.is("by its share now", x.lags(2), 2);
        int[] wrong = {-1, 8, LOW, HIGH};
        for (int s : wrong) {
            Due.is("lags " + s, x.lags(s), -100001);
        }
    }

    private static void heaps() {
        TurnPort x = new TurnPort();
        Rows.put(x, 1, 2, 31, 16, 15, 8, 7, 4, 3, 0);
        int[] k = {1, 2, 4, 8};
        int[] due = {28, 1 + 15, 1 + 6, 1 + 1};
        for (int i = 0; i < 4; i++) {
            Due.is("heaps by " + k[i], x.heaps(1, 2, 0, 8, k[i]), due[i]);
        }
        Due.is("a part of the row", x.heaps(1, 2, 2, 3, 1), 3);
        Due.is("like ranks are in order", rowHeaps(x, 5, 5, 5), 0);
        Due.is("one", x.heaps(1, 2, 0, 1, 8), 0);
        int[] wrong = {0, 3, 5, 6, 7, 9, 16, -1, LOW, HIGH};
        for (int w : wrong) {
            Due.is("heaps by " + w, x.heaps(1, 2, 0, 1, w), TurnPort.BAD);
        }
    }

    private static int rowHeaps(TurnPort x, int... items) {
        Rows.put(x, 1, 2, items);
        return x.heaps(1, 2, 0, items.length, 1);
    }

    private static void cut() {
        TurnPort x = new TurnPort();
        Rows.put(x, 0, 1, 3, 2, 1, 0);
        int[] due = {6, 2, 1, 0, 0, 0, 0, 0};
        for (int k = 1; k <= 8; k++) {
            Due.is("cut by " + k, x.cut(0, 1, 0, 4, k), due[k - 1]);
        }
        Rows.put(x, 0, 1, 31, 0, 31, 0);
        Due.is("ends: one heap", x.cut(0, 1, 0, 4, 1), 3);
        Due.is("ends: two heaps", x.cut(0, 1, 0, 4, 2), 0);
        int[] all = new int[24];
        for (int i = 0; i < 24; i++) {
            all[i] = 23 - i;
        }
        Rows.put(x, 0, 1, all);
        Due.is("24 falling by 1", x.cut(0, 1, 0, 24, 1), 276);
        Due.is("24 falling by 8: threes", x.cut(0, 1, 0, 24, 8), 24);
        Due.is("24 falling by 5: fives and a four", x.cut(0, 1, 0, 24, 5), 46);
        int[] wrong = {0, 9, -1, LOW, HIGH};
        for (int w : wrong) {
            Due.is("cut by " + w, x.cut(0, 1, 0, 1, w), TurnPort.BAD);
        }
    }

    private static void ranksWrong() {
        TurnPort x = new TurnPort();
        x.sheet(0, 0, 24);
        x.item(0, 0, 5, 32);
        x.item(0, 0, 6, -1);
        int[][] calls = {
            {-1, 0, 0, 1, TurnPort.BAD}, {4, 0, 0, 1, TurnPort.BAD}, {0, -1, 0, 1, TurnPort.BAD},
            {0, 3, 0, 1, TurnPort.BAD}, {0, 0, 0, 0, TurnPort.BAD}, {0, 0, 0, 25, TurnPort.BAD},
            {0, 0, 0, LOW, TurnPort.BAD}, {0, 0, 0, HIGH, TurnPort.BAD}, {1, 0, -1, 1, TurnPort.NULL},
            {0, 1, -1, 1, TurnPort.CAST}, {0, 2, 0, 1, TurnPort.CAST}, {0, 0, -1, 1, TurnPort.INDEX},
            {0, 0, 24, 1, TurnPort.INDEX}, {0, 0, 1, 24, TurnPort.INDEX}, {0, 0, HIGH, 24, TurnPort.INDEX},
            {0, 0, LOW, 24, TurnPort.INDEX}, {0, 0, 5, 1, TurnPort.NOT}, {0, 0, 6, 1, TurnPort.NOT},
            {0, 0, 0, 24, TurnPort.NOT}, {0, 0, 0, 5, 0}, {0, 0, 7, 17, 0}};
        for (int[] c : calls) {
            String name = c[0] + " " + c[1] + " " + c[2] + " " + c[3];
            Due.is("heaps " + name, x.heaps(c[0], c[1], c[2], c[3], 2), c[4]);
            Due.is("cut " + name, x.cut(c[0], c[1], c[2], c[3], 2), c[4]);
        }
    }

    /** Words by class, length, due; all of tick 0. */
    private static void word(TurnPort x, int kind, int length, int due) {
        x.set(0, 0, kind);
        x.set(0, 2, due);
        x.come(0, length);
    }

    private static void found() {
        TurnPort x = new TurnPort();
        word(x, 1, 9, 30);
        word(x, 2, 5, 20);
        word(x, 2, 7, 10);
        Rows.put(x, 0, 0, 0, 1, 2, 2, 1, 0, 1, 2, 0, 3, -1);
        Due.is("by c, like ones as they came", x.found(0, 0, 0, 3), 11);
        Due.is("by d", x.found(0, 0, 3, 3), 14);
        Due.is("by l", x.found(0, 0, 6, 3), 12);
        Due.is("twice", x.found(0, 0, 2, 2), TurnPort.NOT);
        Due.is("did not come", x.found(0, 0, 8, 2), TurnPort.NOT);
        Due.is("below 0", x.found(0, 0, 9, 2), TurnPort.NOT);
        x.ticks(40);
        Due.is("of such as left", x.found(0, 0, 0, 3), 11);
        x.full(0, 1);
        word(x, 9, 99, 9);
        word(x, 9, 99, 9);
        Rows.put(x, 1, 0, 3, 4);
        Due.is("of a dropped one", x.found(1, 0, 0, 2), 11);
        Rows.put(x, 1, 0, 4, 3);
        Due.is("of like ones the first to come is not first", x.found(1, 0, 0, 2), TurnPort.NONE);
        int[][] calls = {
            {-1, 0, 0, 2, TurnPort.BAD}, {4, 0, 0, 2, TurnPort.BAD}, {0, 3, 0, 2, TurnPort.BAD},
            {0, -1, 0, 2, TurnPort.BAD}, {0, 0, 0, 1, TurnPort.BAD}, {0, 0, 0, 9, TurnPort.BAD},
            {0, 0, 0, LOW, TurnPort.BAD}, {0, 0, 0, HIGH, TurnPort.BAD}, {2, 0, 0, 2, TurnPort.NULL},
            {0, 2, 99, 2, TurnPort.CAST}, {0, 0, 10, 2, TurnPort.INDEX}, {0, 0, -1, 2, TurnPort.INDEX},
            {0, 0, HIGH, 8, TurnPort.INDEX}, {0, 0, LOW, 8, TurnPort.INDEX}};
        for (int[] c : calls) {
            Due.is("found " + c[0] + " " + c[1] + " " + c[2] + " " + c[3], x.found(c[0], c[1], c[2], c[3]), c[4]);
        }
    }

    private static void foundTwoTerms() {
        TurnPort x = new TurnPort();
        word(x, 0, 8, 10);
        word(x, 3, 6, 11);
        word(x, 5, 1, 10);
        Rows.put(x, 2, 1, 2, 0, 1);
        Due.is("l 1 8 6, c 5 0 3: 1c+1l is 6 8 9", x.found(2, 1, 0, 3), 1112);
        TurnPort y = new TurnPort();
        word(y, 4, 1, 900);
        word(y, 3, 3, 800);
        word(y, 0, 9, 700);
        Rows.put(y, 2, 1, 1, 0, 2);
        Due.is("c 3 4 0, l 3 1 9: 2c+1l is 9 9 9, but 1 behind 0", y.found(2, 1, 0, 3), TurnPort.NONE);
        TurnPort z = new TurnPort();
        word(z, 4, 1, 800);
        word(z, 2, 4, 900);
        word(z, 0, 9, 700);
        Rows.put(z, 2, 1, 1, 0, 2);
        Due.is("c 2 4 0, l 4 1 9: 2c+1l is 8 9 9", z.found(2, 1, 0, 3), 2112);
        TurnPort v = new TurnPort();
        word(v, 4, 1, 9);
        word(v, 2, 4, 10);
        word(v, 0, 9, 14);
        Rows.put(v, 2, 1, 1, 0, 2);
        Due.is("1c+1d is 12 13 14: the first term's number counts more than the second's letter",
            v.found(2, 1, 0, 3), 1114);
    }

    private static void order() {
        TurnPort x = new TurnPort();
        word(x, 0, 5, 5);
        word(x, 0, 3, 3);
        word(x, 0, 1, 100);
        Rows.put(x, 3, 2, 2, 0, 1);
        Due.is("1, 0, 2: 0 + 3 + 0", x.order(3, 2, 0, 3, -1), 3);
        int[] due = {1, 0, 2};
        for (int i = 0; i < 3; i++) {
            Due.is("place " + i, x.order(3, 2, 0, 3, i), due[i]);
        }
        TurnPort y = new TurnPort();
        for (int i = 0; i < 6; i++) {
            word(y, 0, 2, 50);
        }
        Rows.put(y, 3, 2, 5, 3, 4, 1, 0, 2);
        Due.is("none late", y.order(3, 2, 0, 6, -1), 0);
        for (int i = 0; i < 6; i++) {
            Due.is("of like ones by numbers " + i, y.order(3, 2, 0, 6, i), i);
        }
        y.ticks(1);
        Rows.put(y, 3, 2, 5, 1);
        Due.is("from NOW, though one is sent", y.order(3, 2, 0, 2, -1), 0);
        y.ticks(7);
        TurnPort z = new TurnPort();
        z.set(0, 3, 99);
        z.set(0, 2, 4);
        z.come(0, 2);
        z.come(0, 2);
        z.ticks(1);
        Rows.put(z, 3, 2, 1);
        Due.is("no gates; from NOW", z.order(3, 2, 0, 1, -1), 0);
        z.ticks(8);
        Due.is("late by 7", z.order(3, 2, 0, 1, -1), 7);
        Due.is("it itself", z.order(3, 2, 0, 1, 0), 1);
    }

    private static void orderWrong() {
        TurnPort x = new TurnPort();
        x.come(0, 1);
        x.come(0, 5);
        x.come(0, 5);
        x.full(0, 1);
        x.come(0, 5);
        Rows.put(x, 0, 0, 0, 1, 2, 2, 3, 4, -1);
        x.ticks(2);
        int[][] calls = {
            {0, 0, 0, 1, -1, TurnPort.NOT}, {0, 0, 1, 1, -1, TurnPort.NOT}, {0, 0, 2, 1, 0, 2},
            {0, 0, 2, 2, 0, TurnPort.NOT}, {0, 0, 4, 1, 0, TurnPort.NOT}, {0, 0, 5, 1, 0, TurnPort.NOT},
            {0, 0, 6, 1, 0, TurnPort.NOT}, {0, 0, 2, 1, 1, TurnPort.BAD}, {0, 0, 2, 1, -2, TurnPort.BAD},
            {0, 0, 2, 1, HIGH, TurnPort.BAD}, {0, 0, 2, 1, LOW, TurnPort.BAD}, {0, 0, 0, 0, -1, TurnPort.BAD},
            {0, 0, 0, 7, -1, TurnPort.BAD}, {0, 0, 0, HIGH, -1, TurnPort.BAD}, {-1, 0, 0, 1, -1, TurnPort.BAD},
            {4, 0, 0, 1, -1, TurnPort.BAD}, {0, -1, 0, 1, -1, TurnPort.BAD}, {0, 3, 0, 1, -1, TurnPort.BAD},
            {1, 0, -1, 1, -1, TurnPort.NULL}, {0, 1, -1, 1, -1, TurnPort.CAST}, {0, 0, -1, 1, -1, TurnPort.INDEX},
            {0, 0, 7, 1, -1, TurnPort.INDEX}, {0, 0, 2, 6, -1, TurnPort.INDEX}, {0, 0, HIGH, 6, -1, TurnPort.INDEX}};
        for (int[] c : calls) {
            Due.is("order " + c[0] + " " + c[1] + " " + c[2] + " " + c[3] + " " + c[4],
                x.order(c[0], c[1], c[2], c[3], c[4]), c[5]);
        }
    }
}
