/**
 * The least and the greatest number of each range that an act takes, and one beyond each: within
 * a range no answer is BEYOND, outside it each is, and nothing but status() tells of it.
 */
public final class RangeRuns {
    private static final int MIN = Integer.MIN_VALUE;
    private static final int MAX = Integer.MAX_VALUE;
    private static final Due DUE = new Due();

    interface Act {
        long on(RolledPicks x, int[] a);
    }

    public static void main(String[] args) {
        ordersAndStandings();
        deals();
        swaps();
        dealsAsked();
        for (int falls = 0; falls <= 4; falls++) {
            open(falls);
        }
        clubsAndPicks();
        worth();
        tapeAndSheets();
        rows();
        spots();
        told();
        DUE.end();
    }

    /** YEAR 0 has FALLEN with ORDER 3; three DEALS; SHEETS of 0, 1, 12 and 40 numbers; SPOTS. */
    private static RolledPicks made() {
        RolledPicks x = new RolledPicks();
        x.sale(0, 2, 0, 5, 0);
        x.sale(1, 0, 1, 6, 2);
        x.swap(1, 2, 10, 11, 1);
        x.fall(3);
        x.sheet(0, 0, 0);
        x.sheet(1, 0, 1);
        x.sheet(2, 0, 12);
        x.sheet(3, 0, 40);
        for (int spot = 0; spot < 4; spot++) {
            x.hold(spot, 0);
        }
        return x;
    }

    private static void isRange(String name, Act act, int[] base, int which, int least, int greatest) {
        for (int v : new int[] {least, greatest}) {
            RolledPicks x = made();
            String call = name + " with " + v + " as argument " + which;
            long got = act.on(x, with(base, which, v));
            DUE.holds(call + " is not BEYOND", got != Due.BEYOND && got != Due.LONG_BEYOND);
            DUE.is(call + ", then status(0)", x.status(0), 0);
        }
        for (int v : new int[] {least - 1, greatest + 1, MIN, MAX}) {
            finds(name, act, base, which, v, Due.BEYOND);
        }
    }

    private static void finds(String name, Act act, int[] base, int which, int v, long due) {
        RolledPicks x = made();
        String call = name + " with " + v + " as argument " + which;
        boolean ofLongs = name.equals("value") || name.equals("item");
        DUE.is(call, act.on(x, with(base, which, v)), ofLongs && due == Due.BEYOND ? Due.LONG_BEYOND : due);
        DUE.is(call + ", then status(-1)", x.status(-1), 1);
        DUE.is(call + ", then status", x.status((int) (Due.BEYOND - due)), 1);
    }

    private static int[] with(int[] base, int which, int v) {
        int[] a = base.clone();
        a[which] = v;
        return a;
    }

    private static int[] row(int... a) {
        return a;
    }

    private static void ordersAndStandings() {
        isRange("order", (x, a) -> x.order(a[0], a[1]), row(2, 1), 0, 0, 5);
        isRange("order", (x, a) -> x.order(a[0], a[1]), row(2, 1), 1, 0, 2);
        isRange("place", (x, a) -> x.place(a[0], a[1]), row(2, 1), 0, 0, 1295);
        isRange("place", (x, a) -> x.place(a[0], a[1]), row(2, 1), 1, 0, 11);
        isRange("fall", (x, a) -> x.fall(a[0]), row(0), 0, 0, 5);
        isRange("fallen", (x, a) -> x.fallen(a[0]), row(0), 0, 0, 3);
    }

    private static void deals() {
        Act sale = (x, a) -> x.sale(a[0], a[1], a[2], a[3], a[4]);
        isRange("sale", sale, row(0, 0, 1, 7, 1), 0, 0, 1);
        isRange("sale", sale, row(0, 0, 1, 7, 1), 0, 3, 4);
        isRange("sale", sale, row(0, 0, 1, 7, 1), 1, 0, 0);
        isRange("sale", sale, row(0, 0, 1, 7, 1), 1, 2, 2);
        isRange("sale", sale, row(0, 1, 0, 7, 1), 2, 0, 0);
        isRange("sale", sale, row(0, 1, 0, 7, 1), 2, 2, 2);
        isRange("sale", sale, row(0, 0, 1, 7, 1), 3, 0, 11);
        for (int kind : new int[] {1, 3, 4}) {
            isRange("sale", sale, row(kind, 0, 1, 7, 1), 4, 1, 2);
        }
        for (int n : new int[] {MIN, -1, 0, 1, 2, 3, MAX}) {
            DUE.is("sale of a DEAL, where n is " + n + " and doesn't count", made().sale(0, 1, 0, 7, n), 3);
        }
    }

    /** The PICKS of a YEAR are a range of their own for the other PICK. */
    private static void swaps() {
        Act swap = (x, a) -> x.swap(a[0], a[1], a[2], a[3], a[4]);
        isRange("swap", swap, row(0, 1, 6, 7, 0), 0, 0, 0);
        isRange("swap", swap, row(0, 1, 6, 7, 0), 0, 2, 2);
        isRange("swap", swap, row(1, 0, 6, 7, 0), 1, 0, 0);
        isRange("swap", swap, row(1, 0, 6, 7, 0), 1, 2, 2);
        for (int first = 0; first < 12; first += 3) {
            int middle = first + 1;
            isRange("swap", swap, row(0, 1, first, middle, 0), 2, first, first);
            isRange("swap", swap, row(0, 1, first, middle, 0), 2, first + 2, first + 2);
            isRange("swap", swap, row(0, 1, middle, first, 0), 3, first, first);
            isRange("swap", swap, row(0, 1, middle, first, 0), 3, first + 2, first + 2);
            isRange("swap", swap, row(0, 1, first, first + 2, 0), 3, middle, first + 2);
            isRange("swap", swap, row(0, 1, first + 2, middle, 0), 3, first, middle);
        }
        isRange("swap", swap, row(0, 1, 6, 7, 0), 4, 0, 2);
    }

    private static void dealsAsked() {
        isRange("of", (x, a) -> x.of(a[0], a[1]), row(1, 1), 0, 0, 2);
        isRange("of", (x, a) -> x.of(a[0], a[1]), row(1, 1), 1, 0, 7);
        isRange("holds", (x, a) -> x.holds(a[0], a[1]), row(1, 1), 0, 0, 2);
        isRange("holds", (x, a) -> x.holds(a[0], a[1]), row(1, 1), 1, 0, 1295);
        isRange("conveys", (x, a) -> x.conveys(a[0], a[1], a[2]), row(1, 1, 0), 0, 0, 2);
        isRange("conveys", (x, a) -> x.conveys(a[0], a[1], a[2]), row(1, 1, 0), 1, 0, 1295);
        isRange("conveys", (x, a) -> x.conveys(a[0], a[1], a[2]), row(1, 1, 0), 2, 0, 1);
        isRange("clash", (x, a) -> x.clash(a[0]), row(0), 0, 0, 2);
    }

    /** OPEN STANDINGS follow one another: the least and the greatest, by how many YEARS have FALLEN. */
    private static void open(int falls) {
        int[] orders = {3, 0, 5, 2};
        int[] firsts = {0, 648, 648, 678, 680};
        int[] lasts = {1295, 863, 683, 683, 680};
        int least = firsts[falls];
        int greatest = lasts[falls];
        Act[] acts = {
            (x, a) -> x.owner(a[0], 5), (x, a) -> x.chain(a[0], 5, 0), (x, a) -> x.hand(a[0], 1), (x, a) -> x.worth(a[0], 1),
            (x, a) -> x.rounds(1, a[0]), (x, a) -> x.lays(1, a[0]), (x, a) -> x.judge(1, a[0]),
        };
        for (int i = 0; i < acts.length; i++) {
            for (int v : new int[] {least - 1, least, greatest, greatest + 1, -1, 1296, MIN, MAX}) {
                RolledPicks x = fallenSo(orders, falls);
                boolean within = v >= least && v <= greatest;
                String call = "act " + i + " of STANDING " + v + " with " + falls + " FALLEN";
                DUE.holds(call, acts[i].on(x, row(v)) == Due.BEYOND != within);
                DUE.is(call + ", then status(0)", x.status(0), within ? 0 : 1);
            }
        }
    }

    private static RolledPicks fallenSo(int[] orders, int falls) {
        RolledPicks x = new RolledPicks();
        x.sheet(1, 0, 12);
        for (int year = 0; year < falls; year++) {
            x.fall(orders[year]);
        }
        return x;
    }

    private static void clubsAndPicks() {
        isRange("owner", (x, a) -> x.owner(a[0], a[1]), row(700, 1), 1, 0, 11);
        isRange("chain", (x, a) -> x.chain(a[0], a[1], a[2]), row(700, 1, 0), 1, 0, 11);
        isRange("hand", (x, a) -> x.hand(a[0], a[1]), row(700, 1), 1, 0, 2);
        isRange("owners", (x, a) -> x.owners(a[0]), row(0), 0, 0, 11);
        isRange("sure", (x, a) -> x.sure(a[0]), row(0), 0, 0, 11);
        isRange("chance", (x, a) -> x.chance(a[0], a[1]), row(1, 1), 0, 0, 11);
        isRange("chance", (x, a) -> x.chance(a[0], a[1]), row(1, 1), 1, 0, 2);
        isRange("least", (x, a) -> x.least(a[0], a[1]), row(1, 1), 0, 0, 11);
        isRange("least", (x, a) -> x.least(a[0], a[1]), row(1, 1), 1, 0, 2);
    }

    private static void worth() {
        isRange("price", (x, a) -> x.price(a[0], a[1]), row(1, 1), 0, 0, 2);
        isRange("price", (x, a) -> x.price(a[0], a[1]), row(1, 1), 1, 0, 999);
        isRange("worth", (x, a) -> x.worth(a[0], a[1]), row(700, 1), 1, 0, 2);
        isRange("value", (x, a) -> x.value(a[0]), row(0), 0, 0, 2);
        isRange("best", (x, a) -> x.best(a[0], a[1]), row(1, 1), 0, 0, 2);
        isRange("best", (x, a) -> x.best(a[0], a[1]), row(1, 1), 1, 0, 1);
        isRange("hope", (x, a) -> x.hope(a[0]), row(0), 0, 0, 2);
    }

    private static void tapeAndSheets() {
        isRange("rounds", (x, a) -> x.rounds(a[0], a[1]), row(1, 700), 0, 0, 3);
        isRange("lays", (x, a) -> x.lays(a[0], a[1]), row(1, 700), 0, 0, 3);
        isRange("judge", (x, a) -> x.judge(a[0], a[1]), row(1, 700), 0, 0, 3);
        isRange("feed", (x, a) -> x.feed(a[0], a[1]), row(1, 1), 1, 1, 4);
        Act sheet = (x, a) -> x.sheet(a[0], a[1], a[2]);
        isRange("sheet", sheet, row(0, 0, 3), 0, 0, 3);
        isRange("sheet", sheet, row(0, 0, 3), 1, -1, 2);
        for (int sort = 0; sort < 3; sort++) {
            for (int n : new int[] {0, 40}) {
                DUE.is("sheet(1, " + sort + ", " + n + ")", made().sheet(1, sort, n), n);
            }
            for (int n : new int[] {-1, MIN}) {
                finds("sheet", sheet, row(1, sort, 0), 2, n, Due.SIZE);
            }
            for (int n : new int[] {41, MAX}) {
                finds("sheet", sheet, row(1, sort, 0), 2, n, Due.BEYOND);
            }
        }
        for (int n : new int[] {MIN, -1, 0, 41, MAX}) {
            DUE.is("sheet(1, -1, " + n + "), where n doesn't count", made().sheet(1, -1, n), 0);
        }
    }

    /** SHEETS of 1, 12 and 40 numbers, and of none. */
    private static void rows() {
        int[] lengths = {0, 1, 12, 40};
        for (int s : new int[] {MIN, -1, 4, MAX}) {
            finds("write", (x, a) -> x.write(a[0], a[1], 1), row(1, 0), 0, s, Due.BEYOND);
            finds("item", (x, a) -> x.item(a[0], a[1]), row(1, 0), 0, s, Due.BEYOND);
        }
        for (int s = 1; s < 4; s++) {
            int last = lengths[s] - 1;
            isRange("write", (x, a) -> x.write(a[0], a[1], 1), row(s, 0), 1, 0, last);
            isRange("item", (x, a) -> x.item(a[0], a[1]), row(s, 0), 1, 0, last);
        }
        for (int i : new int[] {MIN, -1, 0, 1, MAX}) {
            finds("write", (x, a) -> x.write(a[0], a[1], 1), row(0, 0), 1, i, Due.BEYOND);
            finds("item", (x, a) -> x.item(a[0], a[1]), row(0, 0), 1, i, Due.BEYOND);
        }
        Act copy = (x, a) -> x.copy(a[0], a[1], a[2], a[3], a[4]);
        isRange("copy", copy, row(1, 0, 2, 0, 0), 0, 0, 3);
        isRange("copy", copy, row(1, 0, 2, 0, 0), 2, 0, 3);
        for (int n = 0; n < 13; n++) {
            isRange("copy", copy, row(2, 0, 3, 0, n), 1, 0, 12 - n);
            isRange("copy", copy, row(3, 0, 2, 0, n), 3, 0, 12 - n);
            isRange("copy", copy, row(2, 12 - n, 3, 0, 0), 4, 0, n);
            isRange("copy", copy, row(3, 0, 2, 12 - n, 0), 4, 0, n);
        }
        isRange("copy", copy, row(0, 0, 0, 0, 0), 4, 0, 0);
        isRange("copy", copy, row(3, 0, 3, 0, 0), 4, 0, 40);
    }

    private static void spots() {
        isRange("hold", (x, a) -> x.hold(a[0], a[1]), row(0, 0), 0, 0, 3);
        isRange("hold", (x, a) -> x.hold(a[0], a[1]), row(0, 0), 1, 0, 2);
        isRange("taken", (x, a) -> x.taken(a[0], a[1]), row(0, 0), 0, 0, 3);
        isRange("taken", (x, a) -> x.taken(a[0], a[1]), row(0, 0), 1, 0, 5);
    }

    private static void told() {
        isRange("count", (x, a) -> x.count(a[0]), row(0), 0, 0, 6);
        isRange("status", (x, a) -> x.status(a[0]), row(0), 0, -1, 7);
    }
}
