/** Promises 31 to 38 at their edges: THE TAPE empty and full, SHEETS of none to 40, numbers that wrap around, SPOTS. */
public final class SheetEdges {
    private static final int MIN = Integer.MIN_VALUE;
    private static final int MAX = Integer.MAX_VALUE;
    private static final Due DUE = new Due();

    public static void main(String[] args) {
        lowestBytesHighestFirst();
        tapesFilledByEachN();
        wipes();
        sheetsMissing();
        sheetsBecomeAnew();
        refusedSheets();
        endsOfRows();
        numbersThatWrap();
        copiesOfAllAndNone();
        copiesOntoItself();
        copiesThatDoNotFit();
        copiesOfSorts();
        spotsOfNothing();
        spotsHeldAnew();
        takenAsEachKind();
        takenOnceNoMore();
        DUE.end();
    }

    /** Promise 31: bytes above the n lowest don't count. */
    private static void lowestBytesHighestFirst() {
        RolledPicks x = new RolledPicks();
        x.feed(0xff000000 | ' ' << 16 | ' ' << 8 | 'f', 3);
        x.feed(0xffff0000 | 'r' << 8 | 'o', 2);
        x.feed(0xffffff00 | 'm', 1);
        x.feed('0' << 24 | 't' << 16 | 'o' << 8 | '1', 4);
        x.feed('p' << 24 | 'i' << 16 | 'c' << 8 | 'k', 4);
        DUE.is("feed", x.feed(MIN | '9', 1), 15);
        DUE.is("text()", x.text(), 1);
        DUE.is("of(0, 3)", x.of(0, 3), 9);
        DUE.is("feed of MIN", x.feed(MIN, 4), 4);
        DUE.is("text(): its highest byte comes first", x.text(), -1);
        Due.feed(x, "from 1 to 0 pick 1");
        x.feed(' ' << 24 | ' ' << 16 | ' ' << 8 | 0xff, 4);
        DUE.is("text(): its lowest byte comes last", x.text(), -1 - 21);
    }

    /** FULL: all n bytes fit, or none comes. */
    private static void tapesFilledByEachN() {
        for (int n = 1; n <= 4; n++) {
            RolledPicks x = new RolledPicks();
            for (int had = n; had <= 120; had += n) {
                DUE.is("feed of " + n, x.feed(0x20202020, n), had);
            }
            for (int more = 1; more <= 4; more++) {
                DUE.is("feed of " + more + " to 120", x.feed(0, more), Due.FULL);
            }
            for (int wrong : new int[] {MIN, -1, 0, 5, MAX}) {
                DUE.is("feed of " + wrong + " to 120", x.feed(0, wrong), Due.BEYOND);
            }
            DUE.is("count(5)", x.count(5), 120);
            DUE.is("status(1)", x.status(1), 4);
            DUE.is("status(0)", x.status(0), 5);
            DUE.is("text() of blanks alone", x.text(), -121);
            DUE.is("feed again", x.feed(0, n), n);
        }
        for (int left = 1; left <= 3; left++) {
            RolledPicks x = new RolledPicks();
            Due.feed(x, " ".repeat(120 - left));
            for (int n = left + 1; n <= 4; n++) {
                DUE.is("feed of " + n + " where " + left + " fit", x.feed('x', n), Due.FULL);
                DUE.is("count(5)", x.count(5), 120 - left);
            }
            DUE.is("feed of " + left, x.feed(0x20202020, left), 120);
            DUE.is("text(): none of the refused bytes came", x.text(), -121);
        }
    }

    /** Promise 32. */
    private static void wipes() {
        RolledPicks x = new RolledPicks();
        DUE.is("wipe() of none", x.wipe(), 0);
        x.feed('f', 1);
        DUE.is("wipe() of one", x.wipe(), 1);
        DUE.is("wipe() of none", x.wipe(), 0);
        Due.feed(x, Texts.filled("from 0 to 1 pick 0"));
        DUE.is("wipe() of all", x.wipe(), 120);
        DUE.is("count(5)", x.count(5), 0);
        DUE.is("text() of none", x.text(), -1);
        DUE.is("status(-1)", x.status(-1), 0);
    }

    /** Promise 33: MISSING at first, and once told so, whatever n is. */
    private static void sheetsMissing() {
        RolledPicks x = new RolledPicks();
        for (int round = 0; round < 2; round++) {
            for (int s = 0; s < 4; s++) {
                for (int i : new int[] {MIN, -1, 0, 39, 40, MAX}) {
                    DUE.is("write(" + s + ", " + i + ")", x.write(s, i, 1), Due.MISSING);
                    DUE.is("item(" + s + ", " + i + ")", x.item(s, i), Due.LONG_MISSING);
                }
                DUE.is("copy to itself", x.copy(s, 0, s, 0, 0), Due.MISSING);
                DUE.is("lays", x.lays(s, 0), Due.MISSING);
                DUE.is("judge", x.judge(s, 0), Due.MISSING);
                DUE.is("rounds", x.rounds(s, 0), Due.MISSING);
            }
            for (int s = 0; s < 4; s++) {
                DUE.is("sheet", x.sheet(s, s % 3, 40), 40);
                int[] n = {MIN, -1, 41, MAX};
                DUE.is("sheet, MISSING", x.sheet(s, -1, n[s]), 0);
            }
        }
        DUE.is("status(5)", x.status(5), 2 * 4 * 16);
        DUE.is("status(-1)", x.status(-1), 2 * 4 * 16);
    }

    /** All 0, however many numbers it had. */
    private static void sheetsBecomeAnew() {
        RolledPicks x = new RolledPicks();
        int[] lengths = {40, 1, 40, 0, 39, 40, 40};
        for (int t = 0; t < lengths.length; t++) {
            int n = lengths[t];
            DUE.is("sheet of " + n, x.sheet(3, t % 3, n), n);
            for (int i = 0; i < n; i++) {
                DUE.is("item(3, " + i + ")", x.item(3, i), 0);
                x.write(3, i, -1);
            }
            DUE.is("item(3, n)", x.item(3, n), Due.LONG_BEYOND);
            DUE.is("write(3, n)", x.write(3, n, 1), Due.BEYOND);
        }
        x.sheet(3, -1, 0);
        x.sheet(3, 2, 40);
        DUE.is("item(3, 39), once MISSING", x.item(3, 39), 0);
        DUE.is("another SHEET", x.item(2, 0), Due.LONG_MISSING);
    }

    /** One that is refused stays as it was. */
    private static void refusedSheets() {
        RolledPicks x = new RolledPicks();
        x.sheet(0, 0, 2);
        x.write(0, 1, 7);
        DUE.is("n -1", x.sheet(0, 2, -1), Due.SIZE);
        DUE.is("n MIN", x.sheet(0, 2, MIN), Due.SIZE);
        DUE.is("n 41", x.sheet(0, 2, 41), Due.BEYOND);
        DUE.is("n MAX", x.sheet(0, 2, MAX), Due.BEYOND);
        DUE.is("sort 3", x.sheet(0, 3, 1), Due.BEYOND);
        DUE.is("sort 3, n -1", x.sheet(0, 3, -1), Due.BEYOND);
        DUE.is("sort -2", x.sheet(0, -2, 1), Due.BEYOND);
        DUE.is("sort -2, n -1", x.sheet(0, -2, -1), Due.BEYOND);
        DUE.is("SHEET 4, n -1", x.sheet(4, 0, -1), Due.BEYOND);
        DUE.is("SHEET -1, sort -1", x.sheet(-1, -1, 0), Due.BEYOND);
        DUE.is("SHEET 4, sort -1", x.sheet(4, -1, 0), Due.BEYOND);
        DUE.is("item(0, 1)", x.item(0, 1), 7);
        DUE.is("item(0, 2)", x.item(0, 2), Due.LONG_BEYOND);
        x.write(0, 1, 65536);
        DUE.is("still shorts", x.item(0, 1), 0);
        DUE.is("SHEET 1, still MISSING", x.item(1, 0), Due.LONG_MISSING);
        DUE.is("SHEET 1, refused", x.sheet(1, 0, 41), Due.BEYOND);
        DUE.is("SHEET 1, still MISSING", x.item(1, 0), Due.LONG_MISSING);
        DUE.is("status(6)", x.status(6), 2);
    }

    /** Promises 34 and 35. */
    private static void endsOfRows() {
        for (int n : new int[] {1, 2, 39, 40}) {
            RolledPicks x = new RolledPicks();
            x.sheet(2, 1, n);
            DUE.is("write of the first", x.write(2, 0, 5), 1);
            DUE.is("write of the last", x.write(2, n - 1, 6), 1);
            for (int i : new int[] {MIN, -1, n, 40, MAX}) {
                DUE.is("write(2, " + i + ") of " + n, x.write(2, i, 9), Due.BEYOND);
                DUE.is("item(2, " + i + ") of " + n, x.item(2, i), Due.LONG_BEYOND);
            }
            DUE.is("the first", x.item(2, 0), n == 1 ? 6 : 5);
            DUE.is("the last", x.item(2, n - 1), 6);
            DUE.is("status(0)", x.status(0), 10);
        }
    }

    /** A number comes to a SHEET by its lowest bits, and is read with the sign that they have. */
    private static void numbersThatWrap() {
        long[][] due = {
            {32767, 32767, 32767, 32767}, {32768, -32768, 32768, 32768}, {-32768, -32768, -32768, -32768},
            {-32769, 32767, -32769, -32769}, {65535, -1, 65535, 65535}, {65536, 0, 65536, 65536},
            {2147483647L, -1, 2147483647L, 2147483647L}, {2147483648L, 0, -2147483648L, 2147483648L},
            {-2147483648L, 0, -2147483648L, -2147483648L}, {-2147483649L, -1, 2147483647L, -2147483649L},
            {4294967295L, -1, -1, 4294967295L}, {4294967296L, 0, 0, 4294967296L},
            {Long.MAX_VALUE, -1, -1, Long.MAX_VALUE}, {Long.MIN_VALUE, 0, 0, Long.MIN_VALUE},
            {Due.LONG_BEYOND, (short) Due.LONG_BEYOND, (int) Due.LONG_BEYOND, Due.LONG_BEYOND},
            {Due.BEYOND, (short) Due.BEYOND, Due.BEYOND, Due.BEYOND},
        };
        RolledPicks x = new RolledPicks();
        for (int sort = 0; sort < 3; sort++) {
            x.sheet(sort, sort, 40);
        }
        for (long[] row : due) {
            for (int sort = 0; sort < 3; sort++) {
                DUE.is("write(" + sort + ", 39, " + row[0] + ")", x.write(sort, 39, row[0]), 1);
                DUE.is("item(" + sort + ", 39) of " + row[0], x.item(sort, 39), row[1 + sort]);
                DUE.is("item(" + sort + ", 38)", x.item(sort, 38), 0);
            }
        }
        DUE.is("none of them is a finding", x.status(-1), 0);
    }

    private static void fill(RolledPicks x, int s, int sort, int n, int from) {
        x.sheet(s, sort, n);
        for (int i = 0; i < n; i++) {
            x.write(s, i, from + i);
        }
    }

    /** Promise 36. */
    private static void copiesOfAllAndNone() {
        for (int sort = 0; sort < 3; sort++) {
            RolledPicks x = new RolledPicks();
            fill(x, 0, sort, 40, 100);
            fill(x, 1, sort, 40, 200);
            fill(x, 2, sort, 0, 0);
            DUE.is("none, at the ends", x.copy(0, 40, 1, 40, 0), 0);
            DUE.is("none, at the starts", x.copy(0, 0, 1, 0, 0), 0);
            DUE.is("none of none", x.copy(2, 0, 2, 0, 0), 0);
            DUE.is("none of none to some", x.copy(2, 0, 0, 17, 0), 0);
            DUE.is("the first stays", x.item(1, 0), 200);
            DUE.is("the last stays", x.item(1, 39), 239);
            DUE.is("one, last to first", x.copy(0, 39, 1, 0, 1), 1);
            DUE.is("the first", x.item(1, 0), 139);
            DUE.is("the second stays", x.item(1, 1), 201);
            DUE.is("all", x.copy(0, 0, 1, 0, 40), 40);
            for (int i = 0; i < 40; i++) {
                DUE.is("item(1, " + i + ")", x.item(1, i), 100 + i);
                DUE.is("item(0, " + i + ")", x.item(0, i), 100 + i);
            }
            DUE.is("all onto itself", x.copy(0, 0, 0, 0, 40), 40);
            DUE.is("item(0, 39)", x.item(0, 39), 139);
            DUE.is("status(-1)", x.status(-1), 0);
        }
    }

    /** As they all were: those that lie in both are taken ahead of what comes. */
    private static void copiesOntoItself() {
        for (int by = 1; by < 6; by++) {
            RolledPicks x = new RolledPicks();
            fill(x, 0, 1, 40, 0);
            DUE.is("forward by " + by, x.copy(0, 0, 0, by, 40 - by), 40 - by);
            for (int i = 0; i < 40; i++) {
                DUE.is("forward by " + by + ", item(0, " + i + ")", x.item(0, i), i < by ? i : i - by);
            }
            fill(x, 0, 1, 40, 0);
            DUE.is("backward by " + by, x.copy(0, by, 0, 0, 40 - by), 40 - by);
            for (int i = 0; i < 40; i++) {
                DUE.is("backward by " + by + ", item(0, " + i + ")", x.item(0, i), i < 40 - by ? i + by : i);
            }
        }
    }

    private static void copiesThatDoNotFit() {
        RolledPicks x = new RolledPicks();
        fill(x, 0, 0, 5, 10);
        fill(x, 1, 0, 3, 20);
        int[][] wrong = {
            {0, 0, 1, 0, 4}, {0, 0, 1, 1, 3}, {0, 0, 1, 3, 1}, {0, 0, 1, 4, 0}, {1, 0, 0, 0, 4}, {1, 1, 0, 0, 3}, {1, 3, 0, 0, 1},
            {1, 4, 0, 0, 0}, {0, 3, 0, 0, 3}, {0, 0, 0, 3, 3}, {0, 0, 0, 0, 6}, {0, -1, 1, 0, 1}, {0, 0, 1, -1, 1}, {0, 0, 1, 0, -1},
            {0, -1, 1, 0, 0}, {0, 0, 1, -1, 0}, {0, -1, 1, -1, -1}, {0, MIN, 1, 0, 1}, {0, 0, 1, MIN, 1}, {0, 0, 1, 0, MIN},
            {0, MAX, 1, 0, 1}, {0, 0, 1, MAX, 1}, {0, 0, 1, 0, MAX}, {0, 1, 1, 1, MAX}, {0, MAX, 1, MAX, MAX}, {0, MAX, 1, MAX, 2},
            {0, 5, 1, 0, 1}, {0, 6, 1, 0, 0}, {0, 2, 1, 2, 2},
        };
        for (int[] a : wrong) {
            DUE.is("copy(" + a[0] + ", " + a[1] + ", " + a[2] + ", " + a[3] + ", " + a[4] + ")",
                x.copy(a[0], a[1], a[2], a[3], a[4]), Due.BEYOND);
        }
        for (int i = 0; i < 5; i++) {
            DUE.is("item(0, " + i + ")", x.item(0, i), 10 + i);
        }
        for (int i = 0; i < 3; i++) {
            DUE.is("item(1, " + i + ")", x.item(1, i), 20 + i);
        }
        DUE.is("status(0)", x.status(0), wrong.length);
        DUE.is("status(-1)", x.status(-1), wrong.length);
        DUE.is("what just fits", x.copy(0, 2, 1, 0, 3), 3);
        DUE.is("item(1, 2)", x.item(1, 2), 14);
    }

    /** No such SHEET ahead of MISSING, that ahead of KIND, that ahead of what doesn't fit. */
    private static void copiesOfSorts() {
        RolledPicks x = new RolledPicks();
        for (int sort = 0; sort < 3; sort++) {
            fill(x, sort, sort, 4, 30);
        }
        for (int s = 0; s < 4; s++) {
            for (int t = 0; t < 4; t++) {
                boolean missing = s == 3 || t == 3;
                int none = missing ? Due.MISSING : s == t ? 0 : Due.KIND;
                int bad = missing ? Due.MISSING : s == t ? Due.BEYOND : Due.KIND;
                DUE.is("copy of none from " + s + " to " + t, x.copy(s, 0, t, 0, 0), none);
                DUE.is("copy that doesn't fit from " + s + " to " + t, x.copy(s, 0, t, 0, 5), bad);
                DUE.is("copy below 0 from " + s + " to " + t, x.copy(s, -1, t, -1, -1), bad);
            }
            for (int wrong : new int[] {MIN, -1, 4, MAX}) {
                DUE.is("copy from none such", x.copy(wrong, 0, s, 0, 0), Due.BEYOND);
                DUE.is("copy to none such", x.copy(s, 0, wrong, 0, 0), Due.BEYOND);
                DUE.is("copy to none such, that doesn't fit", x.copy(s, -1, wrong, 0, 9), Due.BEYOND);
            }
        }
    }

    /** Promises 37 and 38. */
    private static void spotsOfNothing() {
        RolledPicks x = new RolledPicks();
        x.sale(0, 0, 1, 0, 0);
        for (int spot = 0; spot < 4; spot++) {
            for (int as = 0; as < 6; as++) {
                DUE.is("taken(" + spot + ", " + as + ")", x.taken(spot, as), Due.MISSING);
            }
            DUE.is("taken(" + spot + ", 6)", x.taken(spot, 6), Due.BEYOND);
            DUE.is("taken(" + spot + ", -1)", x.taken(spot, -1), Due.BEYOND);
            DUE.is("hold(" + spot + ", 1)", x.hold(spot, 1), Due.BEYOND);
            DUE.is("hold(" + spot + ", -1)", x.hold(spot, -1), Due.BEYOND);
            DUE.is("taken(" + spot + ", 0)", x.taken(spot, 0), Due.MISSING);
            DUE.is("count(6)", x.count(6), spot);
            DUE.is("hold(" + spot + ", 0)", x.hold(spot, 0), 1);
            DUE.is("count(6)", x.count(6), spot + 1);
            DUE.is("taken(" + spot + ", 0)", x.taken(spot, 0), 0);
        }
        DUE.is("hold(4, 0)", x.hold(4, 0), Due.BEYOND);
        DUE.is("hold(-1, 0)", x.hold(-1, 0), Due.BEYOND);
        DUE.is("taken(4, 0)", x.taken(4, 0), Due.BEYOND);
        DUE.is("taken(-1, 0)", x.taken(-1, 0), Due.BEYOND);
        DUE.is("count(6)", x.count(6), 4);
    }

    private static void spotsHeldAnew() {
        RolledPicks x = new RolledPicks();
        for (int pick = 0; pick < 12; pick++) {
            x.sale(0, pick % 3, (pick + 1) % 3, pick, 0);
        }
        DUE.is("hold of the last of twelve", x.hold(3, 11), 1);
        DUE.is("taken", x.taken(3, 0), 11);
        DUE.is("hold of the first", x.hold(3, 0), 1);
        DUE.is("taken", x.taken(3, 0), 0);
        DUE.is("hold of one DEAL twice", x.hold(0, 0), 1);
        DUE.is("taken", x.taken(0, 0), 0);
        DUE.is("taken", x.taken(3, 0), 0);
        DUE.is("hold of a 13th", x.hold(3, 12), Due.BEYOND);
        DUE.is("taken, as it was", x.taken(3, 0), 0);
        DUE.is("count(6)", x.count(6), 2);
        RolledPicks y = new RolledPicks();
        y.sale(0, 0, 1, 0, 0);
        y.sale(0, 0, 2, 0, 0);
        DUE.is("hold of a refused one", y.hold(0, 1), Due.BEYOND);
        DUE.is("count(6)", y.count(6), 0);
    }

    /** For one of a KIND, or one under it: as its own KIND, as each above, as no other. */
    private static void takenAsEachKind() {
        int[][] made = {{0, 1}, {1, 1}, {2, 0}, {3, 1}, {4, 1}, {5, 2}};
        boolean[][] stands = {
            {true, false, false, false, false, false}, {true, true, false, false, false, false},
            {true, false, true, false, false, false}, {true, true, false, true, false, false},
            {true, true, false, false, true, false}, {true, false, true, false, false, true},
        };
        for (int[] deal : made) {
            RolledPicks x = new RolledPicks();
            int kind = deal[0];
            boolean swap = kind == 2 || kind == 5;
            DUE.is("made", swap ? x.swap(0, 1, 3, 4, deal[1]) : x.sale(kind, 0, 1, 3, deal[1]), 0);
            x.hold(1, 0);
            for (int as = 0; as < 6; as++) {
                DUE.is("KIND " + kind + " as " + as, x.taken(1, as), stands[kind][as] ? 0 : Due.KIND);
            }
            x.drop();
            for (int as = 0; as < 6; as++) {
                DUE.is("KIND " + kind + " as " + as + ", no more", x.taken(1, as), stands[kind][as] ? -1 : Due.KIND);
            }
        }
    }

    /** -1 once it is no more, by drop(), prune() or back(); another one like it is another one. */
    private static void takenOnceNoMore() {
        RolledPicks x = new RolledPicks();
        x.image();
        x.sale(0, 0, 1, 0, 0);
        x.hold(0, 0);
        x.drop();
        DUE.is("dropped", x.taken(0, 0), -1);
        x.sale(0, 0, 1, 0, 0);
        DUE.is("another one like it", x.taken(0, 0), -1);
        x.hold(1, 0);
        DUE.is("the other one", x.taken(1, 0), 0);
        x.back();
        DUE.is("gone with back()", x.taken(1, 0), -1);
        DUE.is("count(6)", x.count(6), 2);
        x.sale(1, 0, 1, 0, 1);
        x.sale(1, 0, 2, 3, 1);
        x.sale(1, 1, 2, 4, 2);
        for (int k = 0; k < 3; k++) {
            x.hold(k, k);
        }
        x.image();
        x.fall(0);
        x.prune();
        int[] one = {-1, 0, 1};
        for (int k = 0; k < 3; k++) {
            DUE.is("pruned, or with another number", x.taken(k, 1), one[k]);
        }
        x.back();
        for (int k = 0; k < 3; k++) {
            DUE.is("as they came to THE PILE", x.taken(k, 1), k);
        }
        DUE.is("count(6)", x.count(6), 3);
        DUE.is("status(-1)", x.status(-1), 0);
    }
}
