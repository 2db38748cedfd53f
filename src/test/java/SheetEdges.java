/** Terms, section 1, sheets; promises 23 to 26. */
final class SheetEdges {
    private static final int BAD = TurnPort.BAD, NULL = TurnPort.NULL, CAST = TurnPort.CAST, INDEX = TurnPort.INDEX;

    private SheetEdges() {
    }

    static void run() {
        sheets();
        sheet();
        sheetSize();
        drop();
        item();
        lowestBits();
        copy();
        copyTakenAhead();
        copyWrong();
    }

    private static void sheets() {
        Said.says("SHEETS 0 .. 3 hold nothing (at first), or a row of a LANE: 0 bytes, 1 shorts, 2 ints, of 0 to 24 items (0 at first).");
        for (int s = 0; s < 4; s++) {
            TurnPort x = Rows.readable();
            Due.is("sheet " + s + " holds nothing", x.drop(s), NULL);
            for (int lane = 0; lane < 3; lane++) {
                Due.is("24 items", x.sheet(s, lane, 24), 24);
                Rows.hold("items are 0 at first", x, s, lane, new int[24]);
                for (int other = 0; other < 3; other++) {
                    Due.is("lane " + lane + " as " + other, x.item(s, other, 23, 5), other == lane ? 1 : CAST);
                }
                Due.is("0 items", x.sheet(s, lane, 0), 0);
                Due.is("there is no item 0", x.item(s, lane, 0, 5), INDEX);
                Due.is("24 again", x.sheet(s, lane, 24), 24);
                Rows.hold("a new row is 0 again", x, s, lane, new int[24]);
            }
        }
    }

    private static void sheet() {
        Said.says("`int sheet(int sheet, int lane, int n)`: A SHEET holds a new row of a LANE: n.");
        Span.bounds("sheet", 0, 3, BAD, s -> new TurnPort().sheet(s, 0, 1));
        Span.bounds("sheet, lane", 0, 2, BAD, lane -> new TurnPort().sheet(0, lane, 1));
        for (int n = 0; n <= 24; n++) {
            TurnPort x = new TurnPort();
            Due.is("a row of " + n, x.sheet(2, 1, n), n);
            Due.is("the last item", x.item(2, 1, n - 1, 5), n == 0 ? INDEX : 1);
            Due.is("none behind it", x.item(2, 1, n, 5), INDEX);
            Due.is("so many it had", x.drop(2), n);
        }
    }

    private static void sheetSize() {
        Said.says("BAD: also n above 24; SIZE: n below 0.");
        TurnPort x = Rows.readable();
        Rows.put(x, 1, 1, 7, 8, 9);
        int[][] calls = {{25, BAD}, {Integer.MAX_VALUE, BAD}, {-1, TurnPort.SIZE}, {Integer.MIN_VALUE, TurnPort.SIZE}};
        for (int[] c : calls) {
            Due.is("n " + c[0], x.sheet(1, 2, c[0]), c[1]);
            Rows.hold("the row stays", x, 1, 1, 7, 8, 9);
            Due.is("n " + c[0], x.sheet(0, 0, c[0]), c[1]);
            Due.is("nothing stays nothing", x.drop(0), NULL);
        }
        Due.is("24 is not above 24", x.sheet(1, 2, 24), 24);
        Due.is("0 is not below 0", x.sheet(1, 2, 0), 0);
    }

    private static void drop() {
        Said.says("`int drop(int sheet)`: A SHEET holds nothing: how many items it had. BAD; NULL.");
        Span.bounds("drop", 0, 3, BAD, s -> new TurnPort().drop(s));
        int[] sizes = {0, 1, 24};
        for (int n : sizes) {
            TurnPort x = new TurnPort();
            x.sheet(3, 0, n);
            x.sheet(0, 2, 5);
            Due.is("it had " + n, x.drop(3), n);
            Due.is("it holds nothing", x.drop(3), NULL);
            Due.is("no row to put to", x.item(3, 0, 0, 1), NULL);
            Due.is("no row to copy from", x.copy(3, 0, 0, 0, 0), NULL);
            Due.is("another one stays", x.drop(0), 5);
        }
    }

    private static void item() {
        Said.says("`int item(int sheet, int lane, int i, int v)`: Item i of a SHEET, taken as a row of a LANE, becomes v,");
        TurnPort x = Rows.readable();
        x.sheet(1, 1, 4);
        Due.is("the first", x.item(1, 1, 0, 23), 1);
        Due.is("the last", x.item(1, 1, 3, 7), 1);
        Rows.hold("these two alone", x, 1, 1, 23, 0, 0, 7);
        int[][] calls = {{-1, INDEX}, {4, INDEX}, {Integer.MIN_VALUE, INDEX}, {Integer.MAX_VALUE, INDEX}};
        for (int[] c : calls) {
            Due.is("item " + c[0], x.item(1, 1, c[0], 9), c[1]);
        }
        Due.is("as bytes", x.item(1, 0, 0, 9), CAST);
        Due.is("as ints", x.item(1, 2, 0, 9), CAST);
        Due.is("of nothing", x.item(2, 1, 0, 9), NULL);
        Span.bounds("item, sheet", 0, 3, BAD, s -> x.item(s, 0, 0, 9));
        Span.bounds("item, lane", 0, 2, BAD, lane -> new TurnPort().item(1, lane, 0, 9));
        Rows.hold("nothing changed", x, 1, 1, 23, 0, 0, 7);
    }

    /** An item that became v: as a word's number, or NOT if it is below 0 or above 23. */
    private static int kept(int lane, long v) {
        TurnPort x = Rows.readable();
        x.sheet(0, lane, 1);
        x.item(0, lane, 0, (int) v);
        return Rows.read(x, 0, lane, 0);
    }

    private static void lowestBits() {
        Said.says("its lowest bits: 1. BAD; NULL; CAST; INDEX.");
        int not = TurnPort.NOT;
        long[][] calls = {{0, 5, 5}, {0, 256 + 5, 5}, {0, -256 + 5, 5}, {0, 65536 + 5, 5}, {0, 128, not}, {0, 127, not},
            {0, 255, not}, {0, 256, 0}, {0, -256, 0}, {0, -1, not}, {0, 0x7fffff05, 5}, {0, 0x80000017L, 23},
            {1, 5, 5}, {1, 256 + 5, not}, {1, 65536 + 5, 5}, {1, -65536 + 5, 5}, {1, 65535, not}, {1, 65536, 0},
            {1, 32768, not}, {1, 0x7fff0005, 5}, {1, 0x80000017L, 23},
            {2, 5, 5}, {2, 256 + 5, not}, {2, 65536 + 5, not}, {2, 0x7fffffff, not}, {2, 0x80000000L, not}, {2, 0x80000017L, not}};
        for (long[] c : calls) {
            Due.is("lane " + c[0] + ", " + c[1], kept((int) c[0], c[1]), c[2]);
        }
        for (int lane = 0; lane < 3; lane++) {
            for (int v = 0; v < 24; v++) {
                Due.is("lane " + lane + ", " + v, kept(lane, v), v);
            }
        }
        Due.is("a byte of 127 is 127", wordOfLength99(0, 127), TurnPort.NOT);
        Due.is("a byte of 99 is 99", wordOfLength99(0, 99), 0);
        Due.is("a short of 65536 + 99 is 99", wordOfLength99(1, 65536 + 99), 0);
    }

    private static int wordOfLength99(int lane, int v) {
        TurnPort x = new TurnPort();
        x.sheet(0, lane, 2);
        x.item(0, lane, 1, v);
        int word = x.comes(0, lane, 0, 1);
        Due.is("its length", word < 0 ? 99 : x.told(word, 2), 99);
        return word;
    }

    private static void copy() {
        Said.says("`int copy(int from, int i, int to, int j, int n)`: n items of a SHEET from i on come to another one (or the same) "
            + "from j on,");
        for (int lane = 0; lane < 3; lane++) {
            TurnPort x = Rows.readable();
            Rows.put(x, 0, lane, 1, 2, 3, 4);
            Rows.put(x, 3, lane, 11, 12, 13, 14, 15, 16);
            Due.is("two", x.copy(0, 1, 3, 3, 2), 2);
            Rows.hold("two came", x, 3, lane, 11, 12, 13, 2, 3, 16);
            Due.is("none", x.copy(0, 0, 3, 0, 0), 0);
            Due.is("none at both ends", x.copy(0, 4, 3, 6, 0), 0);
            Rows.hold("none came", x, 3, lane, 11, 12, 13, 2, 3, 16);
            Due.is("a whole row to the end", x.copy(0, 0, 3, 2, 4), 4);
            Rows.hold("a whole row came", x, 3, lane, 11, 12, 1, 2, 3, 4);
            Rows.hold("the other one stays", x, 0, lane, 1, 2, 3, 4);
            x.item(0, lane, 0, 9);
            Rows.hold("and they are two rows", x, 3, lane, 11, 12, 1, 2, 3, 4);
        }
        TurnPort y = Rows.readable();
        int[] all = new int[24];
        for (int i = 0; i < 24; i++) {
            all[i] = 23 - i;
        }
        Rows.put(y, 1, 0, all);
        y.sheet(2, 0, 24);
        Due.is("all 24", y.copy(1, 0, 2, 0, 24), 24);
        Rows.hold("all 24 came", y, 2, 0, all);
    }

    private static void copyTakenAhead() {
        Said.says("as if all were taken ahead: n.");
        TurnPort x = Rows.readable();
        Rows.put(x, 0, 2, 1, 2, 3, 4, 5);
        Due.is("up by one", x.copy(0, 0, 0, 1, 4), 4);
        Rows.hold("up by one", x, 0, 2, 1, 1, 2, 3, 4);
        Due.is("down by one", x.copy(0, 1, 0, 0, 4), 4);
        Rows.hold("down by one", x, 0, 2, 1, 2, 3, 4, 4);
        Due.is("onto itself", x.copy(0, 0, 0, 0, 5), 5);
        Rows.hold("onto itself", x, 0, 2, 1, 2, 3, 4, 4);
    }

    private static void copyWrong() {
        Said.says("BAD; NULL (either); CAST: of unlike LANES; INDEX.");
        TurnPort x = Rows.readable();
        Rows.put(x, 0, 2, 1, 2, 3, 4);
        Rows.put(x, 1, 2, 5, 6);
        Rows.put(x, 2, 1, 7, 8);
        Span.bounds("copy, from", 0, 3, BAD, s -> x.copy(s, 0, 0, 0, 0));
        Span.bounds("copy, to", 0, 3, BAD, s -> x.copy(0, 0, s, 0, 0));
        int max = Integer.MAX_VALUE, min = Integer.MIN_VALUE;
        int[][] calls = {{3, 0, 0, 0, 1, NULL}, {0, 0, 3, 0, 1, NULL}, {3, 0, 3, 0, 1, NULL}, {3, 0, 0, 0, 0, NULL},
            {0, 0, 2, 0, 1, CAST}, {2, 0, 0, 0, 1, CAST}, {0, 0, 2, 0, 0, CAST},
            {0, 3, 1, 0, 1, 1}, {0, 4, 1, 0, 1, INDEX}, {0, 4, 1, 0, 0, 0}, {0, 5, 1, 0, 0, INDEX}, {0, -1, 1, 0, 0, INDEX},
            {0, 0, 1, 1, 1, 1}, {0, 0, 1, 2, 1, INDEX}, {0, 0, 1, 2, 0, 0}, {0, 0, 1, 3, 0, INDEX}, {0, 0, 1, -1, 0, INDEX},
            {0, 0, 1, 0, 2, 2}, {0, 0, 1, 0, 3, INDEX}, {1, 0, 0, 0, 3, INDEX}, {0, 0, 1, 0, -1, INDEX},
            {0, max, 1, 0, 2, INDEX}, {0, 0, 1, max, 2, INDEX}, {0, 0, 1, 0, max, INDEX}, {0, min, 1, 0, 2, INDEX},
            {0, 0, 1, min, 2, INDEX}, {0, 0, 1, 0, min, INDEX}, {0, max, 1, max, max, INDEX}, {0, 2, 0, 2, -2, INDEX}};
        for (int[] c : calls) {
            Rows.put(x, 1, 2, 5, 6);
            Due.is("copy " + c[0] + " " + c[1] + " " + c[2] + " " + c[3] + " " + c[4],
                x.copy(c[0], c[1], c[2], c[3], c[4]), c[5]);
            if (c[5] <= 0) {
                Rows.hold("nothing changed", x, 1, 2, 5, 6);
            }
        }
    }
}
