/** Promises 23 to 26: sheets. What a sheet holds is read back by comes and heaps. */
public final class SheetsTest {
    private static final int LOW = Integer.MIN_VALUE, HIGH = Integer.MAX_VALUE;

    public static void main(String[] args) {
        sheet();
        drop();
        item();
        lowestBits();
        copy();
        copyWithin();
        Due.end("SheetsTest");
    }

    private static void sheet() {
        TurnPort x = new TurnPort();
        int[][] calls = {
            {-1, 0, 1, TurnPort.BAD}, {4, 0, 1, TurnPort.BAD}, {LOW, 0, 1, TurnPort.BAD}, {HIGH, 0, 1, TurnPort.BAD},
            {0, -1, 1, TurnPort.BAD}, {0, 3, 1, TurnPort.BAD}, {0, LOW, 1, TurnPort.BAD}, {0, HIGH, 1, TurnPort.BAD},
            {0, 0, 25, TurnPort.BAD}, {0, 0, HIGH, TurnPort.BAD}, {0, 0, -1, TurnPort.SIZE}, {0, 0, LOW, TurnPort.SIZE},
            {4, 0, -1, TurnPort.BAD}, {0, 3, -1, TurnPort.BAD}};
        for (int[] c : calls) {
            Due.is("sheet " + c[0] + " " + c[1] + " " + c[2], x.sheet(c[0], c[1], c[2]), c[3]);
            Due.is("nothing is held", x.drop(0), TurnPort.NULL);
        }
        for (int s = 0; s < 4; s++) {
            for (int lane = 0; lane < 3; lane++) {
                Due.is("24", x.sheet(s, lane, 24), 24);
                Due.is("item 23", x.item(s, lane, 23, 9), 1);
                Due.is("0", x.sheet(s, lane, 0), 0);
                Due.is("no item 0", x.item(s, lane, 0, 9), TurnPort.INDEX);
            }
        }
        x.sheet(0, 0, 3);
        x.item(0, 0, 1, 40);
        Due.is("a wrong call keeps the row", x.sheet(0, 0, -1), TurnPort.SIZE);
        Due.is("40 stands", x.heaps(0, 0, 0, 3, 1), TurnPort.NOT);
        x.sheet(0, 0, 3);
        Due.is("a new row is 0", x.heaps(0, 0, 0, 3, 1), 0);
        x.sheet(0, 2, 3);
        Due.is("another lane", x.heaps(0, 0, 0, 3, 1), TurnPort.CAST);
    }

    private static void drop() {
        TurnPort x = new TurnPort();
        x.sheet(3, 1, 17);
        Due.is("17", x.drop(3), 17);
        Due.is("then nothing", x.drop(3), TurnPort.NULL);
        Due.is("nothing to put to", x.item(3, 1, 0, 1), TurnPort.NULL);
        x.sheet(3, 1, 0);
        Due.is("a row of 0", x.drop(3), 0);
        int[] wrong = {-1, 4, LOW, HIGH};
        for (int s : wrong) {
            Due.is("drop " + s, x.drop(s), TurnPort.BAD);
        }
    }

    private static void item() {
        TurnPort x = new TurnPort();
        x.sheet(1, 1, 5);
        int[][] calls = {
            {-1, 1, 0, TurnPort.BAD}, {4, 1, 0, TurnPort.BAD}, {1, -1, 0, TurnPort.BAD}, {1, 3, 0, TurnPort.BAD},
            {0, 3, 0, TurnPort.BAD}, {LOW, 1, 0, TurnPort.BAD}, {1, HIGH, 0, TurnPort.BAD}, {0, 1, -1, TurnPort.NULL},
            {1, 0, -1, TurnPort.CAST}, {1, 2, 0, TurnPort.CAST}, {1, 1, -1, TurnPort.INDEX}, {1, 1, 5, TurnPort.INDEX},
            {1, 1, LOW, TurnPort.INDEX}, {1, 1, HIGH, TurnPort.INDEX}, {1, 1, 0, 1}, {1, 1, 4, 1}};
        for (int[] c : calls) {
            Due.is("item " + c[0] + " " + c[1] + " " + c[2], x.item(c[0], c[1], c[2], 7), c[3]);
        }
    }

    /** A word of length v, if v is one: its length; else NOT. */
    private static int lengthBy(int lane, int v) {
        TurnPort x = new TurnPort();
        x.sheet(0, lane, 2);
        x.item(0, lane, 1, v);
        int word = x.comes(0, lane, 0, 1);
        return word < 0 ? word : x.told(word, 2);
    }

    private static void lowestBits() {
        Due.is("a byte of 256 + 5", lengthBy(0, 261), 5);
        Due.is("a byte of 128 is below 0", lengthBy(0, 128), TurnPort.NOT);
        Due.is("a byte of -251", lengthBy(0, -251), 5);
        Due.is("a short of 261", lengthBy(1, 261), TurnPort.NOT);
        Due.is("a short of 65536 + 99", lengthBy(1, 65635), 99);
        Due.is("a short of 32769 is below 0", lengthBy(1, 32769), TurnPort.NOT);
        Due.is("an int of 65635", lengthBy(2, 65635), TurnPort.NOT);
        Due.is("an int of 99", lengthBy(2, 99), 99);
    }

    private static String lengths(TurnPort x, int sheet, int lane, int n) {
        StringBuilder s = new StringBuilder();
        TurnPort y = x;
        for (int i = 1; i < n; i += 2) {
            int word = y.comes(sheet, lane, i - 1, 1);
            s.append(word < 0 ? word : y.told(word, 2)).append(' ');
        }
        return s.toString();
    }

    private static void copy() {
        TurnPort x = new TurnPort();
        x.sheet(0, 2, 6);
        x.sheet(1, 2, 8);
        x.sheet(2, 1, 8);
        for (int i = 1; i < 6; i += 2) {
            x.item(0, 2, i, 10 + i);
        }
        Due.is("four", x.copy(0, 0, 1, 2, 4), 4);
        Due.holds("they came", lengths(x, 1, 2, 8).equals("-2 11 13 -2 "));
        Due.is("none", x.copy(0, 6, 1, 8, 0), 0);
        int[][] calls = {
            {-1, 0, 1, 0, 1, TurnPort.BAD}, {4, 0, 1, 0, 1, TurnPort.BAD}, {0, 0, -1, 0, 1, TurnPort.BAD},
            {0, 0, 4, 0, 1, TurnPort.BAD}, {HIGH, 0, 3, 0, 1, TurnPort.BAD}, {3, 0, LOW, 0, 1, TurnPort.BAD},
            {3, 0, 0, 0, 1, TurnPort.NULL}, {0, 0, 3, 0, 1, TurnPort.NULL}, {3, 0, 3, 0, -1, TurnPort.NULL},
            {0, -1, 2, 0, 1, TurnPort.CAST}, {2, 0, 0, 0, -1, TurnPort.CAST}, {0, -1, 1, 0, 1, TurnPort.INDEX},
            {0, 0, 1, -1, 1, TurnPort.INDEX}, {0, 0, 1, 0, -1, TurnPort.INDEX}, {0, 0, 1, 0, 7, TurnPort.INDEX},
            {0, 3, 1, 0, 4, TurnPort.INDEX}, {0, 0, 1, 5, 4, TurnPort.INDEX}, {0, 7, 1, 0, 0, TurnPort.INDEX},
            {0, 0, 1, 9, 0, TurnPort.INDEX}, {0, HIGH, 1, 0, 6, TurnPort.INDEX}, {0, 0, 1, HIGH, 6, TurnPort.INDEX},
            {0, 0, 1, 0, HIGH, TurnPort.INDEX}, {0, 0, 1, 0, LOW, TurnPort.INDEX}, {0, LOW, 1, LOW, 1, TurnPort.INDEX}};
        for (int[] c : calls) {
            Due.is("copy " + c[0] + " " + c[1] + " " + c[2] + " " + c[3] + " " + c[4],
                x.copy(c[0], c[1], c[2], c[3], c[4]), c[5]);
        }
        Due.holds("nothing changed", lengths(x, 1, 2, 8).equals("-2 11 13 -2 "));
    }

    private static void copyWithin() {
        TurnPort x = new TurnPort();
        x.sheet(0, 0, 8);
        for (int i = 1; i < 8; i += 2) {
            x.item(0, 0, i, i);
        }
        Due.is("up", x.copy(0, 0, 0, 2, 6), 6);
        Due.holds("as if all were taken ahead", lengths(x, 0, 0, 8).equals("1 1 3 5 "));
        Due.is("down", x.copy(0, 4, 0, 0, 4), 4);
        Due.holds("as if all were taken ahead", lengths(x, 0, 0, 8).equals("3 5 3 5 "));
    }
}
