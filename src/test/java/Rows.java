/** Rows of sheets, written and read. */
final class Rows {
    private Rows() {
    }

    static void put(TurnPort x, int sheet, int lane, int... items) {
        Due.is("a row of " + items.length, x.sheet(sheet, lane, items.length), items.length);
        for (int i = 0; i < items.length; i++) {
            Due.is("item " + i, x.item(sheet, lane, i, items[i]), 1);
        }
    }

    /** An object in which words 0 .. 23 wait, so that items 0 .. 23 can be read. */
    static TurnPort readable() {
        TurnPort x = new TurnPort();
        for (int i = 0; i < 24; i++) {
            x.come(0, 1);
        }
        return x;
    }

    /** An item as the word that it names: the best order of one word is that word. */
    static int read(TurnPort x, int sheet, int lane, int i) {
        return x.order(sheet, lane, i, 1, 0);
    }

    static void hold(String name, TurnPort x, int sheet, int lane, int... due) {
        for (int i = 0; i < due.length; i++) {
            Due.is(name + ", item " + i, read(x, sheet, lane, i), due[i]);
        }
        Due.is(name + ", behind the last", read(x, sheet, lane, due.length), TurnPort.INDEX);
    }
}
