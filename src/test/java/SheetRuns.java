/** Promises 31 to 38: the tape, sheets, spots. */
public final class SheetRuns {
    private static final Due DUE = new Due();

    public static void main(String[] args) {
        feeds();
        fullTape();
        sheets();
        sorts();
        copies();
        holds();
        kinds();
        held();
        DUE.end();
    }

    private static void feeds() {
        RolledPicks x = new RolledPicks();
        DUE.is("wipe()", x.wipe(), 0);
        DUE.is("feed", x.feed('x' << 24 | 'x' << 16 | 'x' << 8 | 'f', 1), 1);
        DUE.is("feed", x.feed('x' << 24 | 'x' << 16 | 'r' << 8 | 'o', 2), 3);
        DUE.is("feed", x.feed('x' << 24 | 'm' << 16 | ' ' << 8 | '0', 3), 6);
        DUE.is("feed", x.feed(' ' << 24 | 't' << 16 | 'o' << 8 | ' ', 4), 10);
        Due.feed(x, "1 pick 3");
        DUE.is("count(5)", x.count(5), 18);
        DUE.is("text()", x.text(), 1);
        DUE.is("count(5)", x.count(5), 0);
        DUE.is("of(0, 3)", x.of(0, 3), 3);
        DUE.is("feed(0, 0)", x.feed(0, 0), Due.BEYOND);
        DUE.is("feed(0, 5)", x.feed(0, 5), Due.BEYOND);
        x.feed(0, 3);
        DUE.is("wipe()", x.wipe(), 3);
        DUE.is("wipe()", x.wipe(), 0);
        DUE.is("feed after wipe()", x.feed(-1, 4), 4);
        DUE.is("text()", x.text(), -1);
    }

    private static void fullTape() {
        RolledPicks x = new RolledPicks();
        for (int i = 1; i <= 29; i++) {
            DUE.is("feed", x.feed(0x20202020, 4), 4 * i);
        }
        DUE.is("feed", x.feed(0x202020, 3), 119);
        DUE.is("feed of 2", x.feed(0x2020, 2), Due.FULL);
        DUE.is("count(5)", x.count(5), 119);
        DUE.is("feed of 1", x.feed(0x20, 1), 120);
        DUE.is("feed of 1", x.feed(0x20, 1), Due.FULL);
        DUE.is("text() of blanks", x.text(), -121);
        DUE.is("status(1)", x.status(1), 2);
    }

    private static void sheets() {
        RolledPicks x = new RolledPicks();
        DUE.is("sheet(0, 0, 40)", x.sheet(0, 0, 40), 40);
        DUE.is("sheet(0, 0, 41)", x.sheet(0, 0, 41), Due.BEYOND);
        DUE.is("sheet(0, 0, -1)", x.sheet(0, 0, -1), Due.SIZE);
        DUE.is("write(0, 39, 7)", x.write(0, 39, 7), 1);
        DUE.is("item(0, 39)", x.item(0, 39), 7);
        DUE.is("item(0, 40)", x.item(0, 40), Due.LONG_BEYOND);
        DUE.is("sheet(0, 2, 40)", x.sheet(0, 2, 40), 40);
        DUE.is("item(0, 39)", x.item(0, 39), 0);
        x.write(0, 0, 5);
        DUE.is("sheet(0, 2, 3)", x.sheet(0, 2, 3), 3);
        DUE.is("item(0, 0)", x.item(0, 0), 0);
        DUE.is("sheet(0, 1, 0)", x.sheet(0, 1, 0), 0);
        DUE.is("item(0, 0)", x.item(0, 0), Due.LONG_BEYOND);
        DUE.is("sheet(0, -1, -5)", x.sheet(0, -1, -5), 0);
        DUE.is("item(0, 0)", x.item(0, 0), Due.LONG_MISSING);
        DUE.is("write(0, 0, 1)", x.write(0, 0, 1), Due.MISSING);
        DUE.is("sheet(3, -1, 99)", x.sheet(3, -1, 99), 0);
        DUE.is("sheet(4, -1, 0)", x.sheet(4, -1, 0), Due.BEYOND);
        DUE.is("sheet(0, -2, 0)", x.sheet(0, -2, 0), Due.BEYOND);
        DUE.is("sheet(0, 3, -1)", x.sheet(0, 3, -1), Due.BEYOND);
    }

    private static void sorts() {
        long[] longs = {0, -1, 32768, 65536, 1L << 31, 1L << 32, -32769, Long.MIN_VALUE, Long.MAX_VALUE, 0x123456789ABCDEFL};
        RolledPicks x = new RolledPicks();
        for (int sort = 0; sort < 3; sort++) {
            x.sheet(sort, sort, longs.length);
        }
        for (int i = 0; i < longs.length; i++) {
            for (int sort = 0; sort < 3; sort++) {
                DUE.is("write", x.write(sort, i, longs[i]), 1);
            }
            DUE.is("short " + i, x.item(0, i), (short) longs[i]);
            DUE.is("int " + i, x.item(1, i), (int) longs[i]);
            DUE.is("long " + i, x.item(2, i), longs[i]);
        }
    }

    private static void fill(RolledPicks x, int s, int sort, int n, int from) {
        x.sheet(s, sort, n);
        for (int i = 0; i < n; i++) {
            x.write(s, i, from + i);
        }
    }

    private static void isRow(RolledPicks x, int s, long... due) {
        for (int i = 0; i < due.length; i++) {
            DUE.is("item(" + s + ", " + i + ")", x.item(s, i), due[i]);
        }
        DUE.is("item(" + s + ", " + due.length + ")", x.item(s, due.length), Due.LONG_BEYOND);
    }

    private static void copies() {
        RolledPicks x = new RolledPicks();
        fill(x, 0, 1, 5, 10);
        fill(x, 1, 1, 3, 20);
        fill(x, 2, 0, 3, 30);
        DUE.is("copy(0, 1, 1, 0, 2)", x.copy(0, 1, 1, 0, 2), 2);
        isRow(x, 1, 11, 12, 22);
        isRow(x, 0, 10, 11, 12, 13, 14);
        DUE.is("onto itself, forward", x.copy(0, 0, 0, 1, 4), 4);
        isRow(x, 0, 10, 10, 11, 12, 13);
        DUE.is("onto itself, backward", x.copy(0, 2, 0, 0, 3), 3);
        isRow(x, 0, 11, 12, 13, 12, 13);
        DUE.is("all", x.copy(1, 0, 0, 2, 3), 3);
        isRow(x, 0, 11, 12, 11, 12, 22);
        DUE.is("nothing", x.copy(0, 5, 1, 3, 0), 0);
        DUE.is("one has not so many", x.copy(0, 3, 1, 0, 3), Due.BEYOND);
        DUE.is("the other has not so many", x.copy(0, 0, 1, 1, 3), Due.BEYOND);
        DUE.is("unlike sorts", x.copy(0, 0, 2, 0, 1), Due.KIND);
        DUE.is("MISSING", x.copy(0, 0, 3, 0, 1), Due.MISSING);
        DUE.is("MISSING", x.copy(3, 0, 3, 0, 1), Due.MISSING);
        isRow(x, 0, 11, 12, 11, 12, 22);
    }

    private static void holds() {
        RolledPicks x = new RolledPicks();
        x.sale(0, 0, 1, 0, 0);
        x.sale(0, 1, 2, 1, 0);
        x.sale(0, 2, 0, 2, 0);
        DUE.is("hold(0, 2)", x.hold(0, 2), 1);
        DUE.is("hold(3, 0)", x.hold(3, 0), 1);
        DUE.is("hold(0, 3)", x.hold(0, 3), Due.BEYOND);
        DUE.is("hold(4, 0)", x.hold(4, 0), Due.BEYOND);
        DUE.is("count(6)", x.count(6), 2);
        DUE.is("taken(0, 0)", x.taken(0, 0), 2);
        DUE.is("taken(3, 0)", x.taken(3, 0), 0);
        DUE.is("taken(1, 0)", x.taken(1, 0), Due.MISSING);
        DUE.is("hold(3, 1)", x.hold(3, 1), 1);
        DUE.is("taken(3, 0)", x.taken(3, 0), 1);
        DUE.is("count(6)", x.count(6), 2);
    }

    private static void kinds() {
        RolledPicks x = new RolledPicks();
        x.sale(0, 0, 1, 0, 0);
        x.sale(1, 0, 1, 3, 1);
        x.swap(0, 1, 6, 7, 0);
        x.sale(3, 0, 1, 9, 1);
        x.sale(4, 1, 2, 1, 1);
        x.swap(1, 2, 10, 11, 2);
        int[][] under = {{0, 1, 2, 3, 4, 5}, {1, 3, 4}, {2, 5}, {3}, {4}, {5}};
        for (int k = 0; k < 6; k++) {
            DUE.is("of(" + k + ", 0)", x.of(k, 0), k);
            x.hold(k % 4, k);
            for (int as = 0; as < 6; as++) {
                int due = Due.KIND;
                for (int kind : under[as]) {
                    due = kind == k ? k : due;
                }
                DUE.is("KIND " + k + " as " + as, x.taken(k % 4, as), due);
            }
        }
    }

    private static void held() {
        RolledPicks x = new RolledPicks();
        x.sale(1, 0, 1, 0, 2);
        x.sale(4, 1, 2, 4, 1);
        x.sale(0, 2, 1, 8, 0);
        x.hold(0, 0);
        x.hold(1, 1);
        x.hold(2, 2);
        x.image();
        x.fall(0);
        DUE.is("prune()", x.prune(), 1);
        DUE.is("taken(0, 1), pruned", x.taken(0, 1), -1);
        DUE.is("taken(0, 2), pruned and another KIND", x.taken(0, 2), Due.KIND);
        DUE.is("taken(1, 4), with another number", x.taken(1, 4), 0);
        DUE.is("taken(2, 0), with another number", x.taken(2, 0), 1);
        DUE.is("drop()", x.drop(), 1);
        DUE.is("taken(2, 0), dropped", x.taken(2, 0), -1);
        x.sale(0, 2, 1, 8, 0);
        DUE.is("taken(2, 0), another one like it", x.taken(2, 0), -1);
        DUE.is("count(6)", x.count(6), 3);
        DUE.is("back()", x.back(), 3);
        for (int k = 0; k < 3; k++) {
            DUE.is("taken(" + k + ", 0), there again", x.taken(k, 0), k);
        }
    }
}
