/** Each finding of each call: it is counted, and changes nothing else. */
public final class FindingRuns {
    private static final int MIN = Integer.MIN_VALUE;
    private static final int MAX = Integer.MAX_VALUE;
    private static final Due DUE = new Due();
    private static final Findings FOUND = new Findings(DUE);

    public static void main(String[] args) {
        ordersAndStandings();
        sales();
        swaps();
        texts();
        dealsAsked();
        ownersAsked();
        worthAsked();
        roundsAsked();
        tapeAndSheets();
        spots();
        piles();
        DUE.end();
    }

    private static void ordersAndStandings() {
        for (int v : new int[] {-1, MIN, MAX}) {
            FOUND.check("order(v, 0)", Findings::rich, Due.BEYOND, x -> x.order(v, 0));
            FOUND.check("order(0, v)", Findings::rich, Due.BEYOND, x -> x.order(0, v));
            FOUND.check("place(v, 0)", Findings::rich, Due.BEYOND, x -> x.place(v, 0));
            FOUND.check("place(0, v)", Findings::rich, Due.BEYOND, x -> x.place(0, v));
            FOUND.check("fall(v)", Findings::rich, Due.BEYOND, x -> x.fall(v));
            FOUND.check("fallen(v)", Findings::rich, Due.BEYOND, x -> x.fallen(v));
        }
        FOUND.check("order(6, 0)", Findings::rich, Due.BEYOND, x -> x.order(6, 0));
        FOUND.check("order(0, 3)", Findings::rich, Due.BEYOND, x -> x.order(0, 3));
        FOUND.check("place(1296, 0)", Findings::rich, Due.BEYOND, x -> x.place(1296, 0));
        FOUND.check("place(0, 12)", Findings::rich, Due.BEYOND, x -> x.place(0, 12));
        FOUND.check("fall(6)", Findings::rich, Due.BEYOND, x -> x.fall(6));
        FOUND.check("fall(6), all fallen", Findings::allFallen, Due.BEYOND, x -> x.fall(6));
        FOUND.check("fall(0), all fallen", Findings::allFallen, Due.NONE, x -> x.fall(0));
        FOUND.check("fallen(4)", Findings::allFallen, Due.BEYOND, x -> x.fallen(4));
        FOUND.check("fallen(1)", Findings::rich, Due.NONE, x -> x.fallen(1));
        FOUND.check("fallen(0)", Findings::bare, Due.NONE, x -> x.fallen(0));
    }

    private static void sales() {
        for (int kind : new int[] {-1, 2, 5, 6, MIN, MAX}) {
            FOUND.check("sale(" + kind + ", 0, 1, 4, 1)", Findings::rich, Due.BEYOND, x -> x.sale(kind, 0, 1, 4, 1));
        }
        for (int club : new int[] {-1, 3, MIN, MAX}) {
            FOUND.check("sale(0, " + club + ", 1, 4, 1)", Findings::rich, Due.BEYOND, x -> x.sale(0, club, 1, 4, 1));
            FOUND.check("sale(0, 1, " + club + ", 4, 1)", Findings::rich, Due.BEYOND, x -> x.sale(0, 1, club, 4, 1));
        }
        FOUND.check("sale(0, 1, 1, 4, 1)", Findings::rich, Due.BEYOND, x -> x.sale(0, 1, 1, 4, 1));
        for (int pick : new int[] {-1, 12, MIN, MAX}) {
            FOUND.check("sale(0, 1, 0, " + pick + ", 1)", Findings::rich, Due.BEYOND, x -> x.sale(0, 1, 0, pick, 1));
        }
        for (int kind : new int[] {1, 3, 4}) {
            for (int n : new int[] {-1, 0, 3, MIN, MAX}) {
                FOUND.check("sale(" + kind + ", 1, 0, 4, " + n + ")", Findings::rich, Due.BEYOND,
                    x -> x.sale(kind, 1, 0, 4, n));
            }
        }
        FOUND.check("sale(1, 0, 1, 0, 3): n ahead of the YEAR", Findings::rich, Due.BEYOND, x -> x.sale(1, 0, 1, 0, 3));
        FOUND.check("sale(0, 0, 1, 0, 0)", Findings::rich, Due.NONE, x -> x.sale(0, 0, 1, 0, 0));
        FOUND.check("sale(0, 2, 1, 2, 0)", Findings::rich, Due.NONE, x -> x.sale(0, 2, 1, 2, 0));
        FOUND.check("sale(0, 2, 1, 11, 0)", Findings::allFallen, Due.NONE, x -> x.sale(0, 2, 1, 11, 0));
        FOUND.check("sale when full, YEAR fallen", Findings::fullAndFallen, Due.NONE, x -> x.sale(0, 1, 2, 0, 0));
        FOUND.check("sale when full", Findings::full, Due.FULL, x -> x.sale(0, 1, 2, 0, 0));
        FOUND.check("sale when full, and a CLASH", Findings::full, Due.FULL, x -> x.sale(0, 0, 2, 0, 0));
        FOUND.check("sale when full, n", Findings::full, Due.BEYOND, x -> x.sale(4, 0, 2, 0, 0));
        FOUND.check("sale with a CLASH", Findings::rich, Due.STATE, x -> x.sale(0, 1, 2, 5, 0));
        FOUND.check("sale(3, 0, 1, 3, 2) with a CLASH", Findings::rich, Due.STATE, x -> x.sale(3, 0, 2, 3, 2));
    }

    private static void swaps() {
        for (int club : new int[] {-1, 3, MIN, MAX}) {
            FOUND.check("swap(" + club + ", 1, 4, 5, 0)", Findings::rich, Due.BEYOND, x -> x.swap(club, 1, 4, 5, 0));
            FOUND.check("swap(1, " + club + ", 4, 5, 0)", Findings::rich, Due.BEYOND, x -> x.swap(1, club, 4, 5, 0));
        }
        FOUND.check("swap(1, 1, 4, 5, 0)", Findings::rich, Due.BEYOND, x -> x.swap(1, 1, 4, 5, 0));
        for (int pick : new int[] {-1, 12, 13, 4, 3 + 3, 2, MIN, MAX}) {
            FOUND.check("swap(1, 2, 4, " + pick + ", 0)", Findings::rich, Due.BEYOND, x -> x.swap(1, 2, 4, pick, 0));
            FOUND.check("swap(1, 2, " + pick + ", 4, 0)", Findings::rich, Due.BEYOND, x -> x.swap(1, 2, pick, 4, 0));
        }
        for (int pick : new int[] {-1, -2, -3, MIN}) {
            FOUND.check("swap(0, 1, 1, " + pick + ", 0)", Findings::bare, Due.BEYOND, x -> x.swap(0, 1, 1, pick, 0));
            FOUND.check("swap(0, 1, " + pick + ", 1, 0)", Findings::bare, Due.BEYOND, x -> x.swap(0, 1, pick, 1, 0));
        }
        for (int n : new int[] {-1, 3, MIN, MAX}) {
            FOUND.check("swap(1, 2, 4, 5, " + n + ")", Findings::rich, Due.BEYOND, x -> x.swap(1, 2, 4, 5, n));
        }
        FOUND.check("swap(0, 1, 0, 1, 3)", Findings::rich, Due.BEYOND, x -> x.swap(0, 1, 0, 1, 3));
        FOUND.check("swap(0, 1, 0, 1, 0)", Findings::rich, Due.NONE, x -> x.swap(0, 1, 0, 1, 0));
        FOUND.check("swap when full, YEAR fallen", Findings::fullAndFallen, Due.NONE, x -> x.swap(1, 2, 0, 1, 0));
        FOUND.check("swap when full", Findings::full, Due.FULL, x -> x.swap(1, 2, 0, 1, 1));
        FOUND.check("swap with a CLASH", Findings::rich, Due.STATE, x -> x.swap(1, 2, 7, 8, 1));
    }

    private static void texts() {
        String clash = "from 1 to 0 pick 4; from 0 to 2 pick 5";
        String fault = "from 0 to 1 pick 5; from 1 to 0 pick 5;";
        FOUND.alike("a text() with a CLASH", FindingRuns::richWiped, x -> textOnRich(x, clash));
        FOUND.alike("a text() with a FAULT", FindingRuns::richWiped, x -> textOnRich(x, fault));
        RolledPicks x = new RolledPicks();
        richWiped(x);
        DUE.is("deals of the rich object", x.count(0), 6);
        int states = x.status(4);
        int all = x.status(-1);
        DUE.is("text() with a FAULT", Due.text(x, fault), -40);
        DUE.is("then status(-1)", x.status(-1), all);
        DUE.is("then clash(0)", x.clash(0), 0);
        DUE.is("then bytes", x.count(5), 0);
        DUE.is("text() with a CLASH", Due.text(x, clash), Due.STATE);
        DUE.is("then clash(0)", x.clash(0), 648);
        DUE.is("then bytes", x.count(5), 0);
        DUE.is("then status(4)", x.status(4), states + 1);
        DUE.is("then status(-1)", x.status(-1), all + 1);
    }

    private static void richWiped(RolledPicks x) {
        Findings.rich(x);
        x.wipe();
    }

    private static void textOnRich(RolledPicks x, String text) {
        richWiped(x);
        Due.text(x, text);
    }

    private static void dealsAsked() {
        for (int k : new int[] {-1, 6, 12, MIN, MAX}) {
            FOUND.check("of(" + k + ", 0)", Findings::rich, Due.BEYOND, x -> x.of(k, 0));
            FOUND.check("holds(" + k + ", 0)", Findings::rich, Due.BEYOND, x -> x.holds(k, 0));
            FOUND.check("conveys(" + k + ", 0, 0)", Findings::rich, Due.BEYOND, x -> x.conveys(k, 0, 0));
        }
        FOUND.check("of(0, 0), no deal", Findings::bare, Due.BEYOND, x -> x.of(0, 0));
        for (int what : new int[] {-1, 8, MIN, MAX}) {
            FOUND.check("of(0, " + what + ")", Findings::rich, Due.BEYOND, x -> x.of(0, what));
        }
        for (int standing : new int[] {-1, 1296, MIN, MAX}) {
            FOUND.check("holds(0, " + standing + ")", Findings::rich, Due.BEYOND, x -> x.holds(0, standing));
            FOUND.check("conveys(0, " + standing + ", 0)", Findings::rich, Due.BEYOND, x -> x.conveys(0, standing, 0));
        }
        for (int what : new int[] {-1, 2, MIN, MAX}) {
            FOUND.check("conveys(0, 0, " + what + ")", Findings::rich, Due.BEYOND, x -> x.conveys(0, 0, what));
        }
        FOUND.check("conveys(1, 0, 0)", Findings::rich, Due.NONE, x -> x.conveys(1, 0, 0));
        FOUND.check("conveys(0, 0, 1)", Findings::rich, Due.NONE, x -> x.conveys(0, 0, 1));
        FOUND.check("drop(), no deal", Findings::bare, Due.NONE, x -> x.drop());
        for (int what : new int[] {-1, 3, MIN, MAX}) {
            FOUND.check("clash(" + what + ")", Findings::rich, Due.BEYOND, x -> x.clash(what));
        }
    }

    private static void ownersAsked() {
        for (int s : new int[] {-1, 0, 647, 864, 1296, MIN, MAX}) {
            FOUND.check("owner(" + s + ", 5)", Findings::rich, Due.BEYOND, x -> x.owner(s, 5));
            FOUND.check("chain(" + s + ", 5, 0)", Findings::rich, Due.BEYOND, x -> x.chain(s, 5, 0));
            FOUND.check("hand(" + s + ", 0)", Findings::rich, Due.BEYOND, x -> x.hand(s, 0));
        }
        for (int pick : new int[] {-1, 12, MIN, MAX}) {
            FOUND.check("owner(700, " + pick + ")", Findings::rich, Due.BEYOND, x -> x.owner(700, pick));
            FOUND.check("chain(700, " + pick + ", 0)", Findings::rich, Due.BEYOND, x -> x.chain(700, pick, 0));
            FOUND.check("owners(" + pick + ")", Findings::rich, Due.BEYOND, x -> x.owners(pick));
            FOUND.check("sure(" + pick + ")", Findings::rich, Due.BEYOND, x -> x.sure(pick));
            FOUND.check("chance(" + pick + ", 0)", Findings::rich, Due.BEYOND, x -> x.chance(pick, 0));
            FOUND.check("least(" + pick + ", 0)", Findings::rich, Due.BEYOND, x -> x.least(pick, 0));
        }
        for (int i : new int[] {1, 2, 3, MAX, -2, -3, MIN, MIN + 1}) {
            FOUND.check("chain(700, 4, " + i + ")", Findings::rich, Due.NONE, x -> x.chain(700, 4, i));
            FOUND.check("chain(0, 4, " + i + "), not OPEN", Findings::rich, Due.BEYOND, x -> x.chain(0, 4, i));
            FOUND.check("chain(700, -1, " + i + ")", Findings::rich, Due.BEYOND, x -> x.chain(700, -1, i));
        }
        for (int club : new int[] {-1, 3, MIN, MAX}) {
            FOUND.check("hand(700, " + club + ")", Findings::rich, Due.BEYOND, x -> x.hand(700, club));
            FOUND.check("chance(5, " + club + ")", Findings::rich, Due.BEYOND, x -> x.chance(5, club));
            FOUND.check("least(5, " + club + ")", Findings::rich, Due.BEYOND, x -> x.least(5, club));
        }
        FOUND.check("sure(3)", Findings::rich, Due.NONE, x -> x.sure(3));
        FOUND.check("least(4, 0)", Findings::rich, Due.NONE, x -> x.least(4, 0));
    }

    private static void worthAsked() {
        for (int v : new int[] {-1, 3, MIN, MAX}) {
            FOUND.check("price(" + v + ", 1)", Findings::rich, Due.BEYOND, x -> x.price(v, 1));
            FOUND.check("worth(700, " + v + ")", Findings::rich, Due.BEYOND, x -> x.worth(700, v));
            FOUND.check("value(" + v + ")", Findings::rich, Due.LONG_BEYOND, x -> x.value(v));
            FOUND.check("best(" + v + ", 0)", Findings::rich, Due.BEYOND, x -> x.best(v, 0));
            FOUND.check("hope(" + v + ")", Findings::rich, Due.BEYOND, x -> x.hope(v));
        }
        for (int v : new int[] {-1, 1000, MIN, MAX}) {
            FOUND.check("price(0, " + v + ")", Findings::rich, Due.BEYOND, x -> x.price(0, v));
        }
        for (int s : new int[] {-1, 0, 647, 864, 1296, MIN, MAX}) {
            FOUND.check("worth(" + s + ", 0)", Findings::rich, Due.BEYOND, x -> x.worth(s, 0));
        }
        for (int what : new int[] {-1, 2, MIN, MAX}) {
            FOUND.check("best(0, " + what + ")", Findings::rich, Due.BEYOND, x -> x.best(0, what));
        }
        FOUND.check("hope(3), all fallen", Findings::allFallen, Due.BEYOND, x -> x.hope(3));
        FOUND.check("hope(0), all fallen", Findings::allFallen, Due.NONE, x -> x.hope(0));
    }

    private static void roundsAsked() {
        for (int v : new int[] {-1, 4, MIN, MAX}) {
            FOUND.check("rounds(" + v + ", 700)", Findings::rich, Due.BEYOND, x -> x.rounds(v, 700));
            FOUND.check("lays(" + v + ", 700)", Findings::rich, Due.BEYOND, x -> x.lays(v, 700));
            FOUND.check("judge(" + v + ", 700)", Findings::rich, Due.BEYOND, x -> x.judge(v, 700));
        }
        for (int s : new int[] {-1, 0, 647, 864, 1296, MIN, MAX}) {
            FOUND.check("rounds(3, " + s + ")", Findings::rich, Due.BEYOND, x -> x.rounds(3, s));
            FOUND.check("lays(3, " + s + ")", Findings::rich, Due.BEYOND, x -> x.lays(3, s));
            FOUND.check("judge(3, " + s + ")", Findings::rich, Due.BEYOND, x -> x.judge(3, s));
            FOUND.check("lays(1, " + s + ")", Findings::rich, Due.BEYOND, x -> x.lays(1, s));
        }
        FOUND.check("rounds(3, 700)", Findings::rich, Due.MISSING, x -> x.rounds(3, 700));
        FOUND.check("lays(3, 700)", Findings::rich, Due.MISSING, x -> x.lays(3, 700));
        FOUND.check("judge(3, 700)", Findings::rich, Due.MISSING, x -> x.judge(3, 700));
        FOUND.check("rounds(2, 700), too few", Findings::rich, Due.SIZE, x -> x.rounds(2, 700));
        FOUND.check("rounds(0, 700), one twice", Findings::rich, Due.STATE, x -> x.rounds(0, 700));
        FOUND.check("rounds(1, 700), too many", Findings::rich, Due.SIZE, x -> x.rounds(1, 700));
        FOUND.check("rounds(0, 0), all 0", Findings::full, Due.STATE, x -> x.rounds(0, 0));
    }

    private static void tapeAndSheets() {
        for (int n : new int[] {-1, 0, 5, MIN, MAX}) {
            FOUND.check("feed(0, " + n + ")", Findings::rich, Due.BEYOND, x -> x.feed(0, n));
            FOUND.check("feed(0, " + n + "), full", Findings::full, Due.BEYOND, x -> x.feed(0, n));
        }
        for (int n = 2; n <= 4; n++) {
            int bytes = n;
            FOUND.check("feed(0, " + n + "), full", Findings::full, Due.FULL, x -> x.feed(0, bytes));
        }
        for (int s : new int[] {-1, 4, MIN, MAX}) {
            FOUND.check("sheet(" + s + ", 0, 3)", Findings::rich, Due.BEYOND, x -> x.sheet(s, 0, 3));
            FOUND.check("sheet(" + s + ", -1, 3)", Findings::rich, Due.BEYOND, x -> x.sheet(s, -1, 3));
            FOUND.check("sheet(" + s + ", 0, -1)", Findings::rich, Due.BEYOND, x -> x.sheet(s, 0, -1));
            FOUND.check("write(" + s + ", 0, 3)", Findings::rich, Due.BEYOND, x -> x.write(s, 0, 3));
            FOUND.check("item(" + s + ", 0)", Findings::rich, Due.LONG_BEYOND, x -> x.item(s, 0));
            FOUND.check("copy(" + s + ", 0, 1, 0, 1)", Findings::rich, Due.BEYOND, x -> x.copy(s, 0, 1, 0, 1));
            FOUND.check("copy(3, 0, " + s + ", 0, 1)", Findings::rich, Due.BEYOND, x -> x.copy(3, 0, s, 0, 1));
        }
        for (int sort : new int[] {-2, 3, MIN, MAX}) {
            FOUND.check("sheet(0, " + sort + ", 3)", Findings::rich, Due.BEYOND, x -> x.sheet(0, sort, 3));
            FOUND.check("sheet(0, " + sort + ", -1)", Findings::rich, Due.BEYOND, x -> x.sheet(0, sort, -1));
        }
        FOUND.check("sheet(0, 1, -1)", Findings::rich, Due.SIZE, x -> x.sheet(0, 1, -1));
        FOUND.check("sheet(0, 1, MIN)", Findings::rich, Due.SIZE, x -> x.sheet(0, 1, MIN));
        FOUND.check("sheet(0, 1, 41)", Findings::rich, Due.BEYOND, x -> x.sheet(0, 1, 41));
        FOUND.check("sheet(0, 1, MAX)", Findings::rich, Due.BEYOND, x -> x.sheet(0, 1, MAX));
        FOUND.check("write(3, -1, 0)", Findings::rich, Due.MISSING, x -> x.write(3, -1, 0));
        FOUND.check("item(3, -1)", Findings::rich, Due.LONG_MISSING, x -> x.item(3, -1));
        for (int i : new int[] {-1, 6, MIN, MAX}) {
            FOUND.check("write(0, " + i + ", 1)", Findings::rich, Due.BEYOND, x -> x.write(0, i, 1));
            FOUND.check("item(0, " + i + ")", Findings::rich, Due.LONG_BEYOND, x -> x.item(0, i));
        }
        copies();
    }

    private static void copies() {
        FOUND.check("copy(0, 0, 3, 0, 99)", Findings::rich, Due.MISSING, x -> x.copy(0, 0, 3, 0, 99));
        FOUND.check("copy(3, 0, 0, 0, 1)", Findings::rich, Due.MISSING, x -> x.copy(3, 0, 0, 0, 1));
        FOUND.check("copy(0, 0, 1, 0, -1)", Findings::rich, Due.KIND, x -> x.copy(0, 0, 1, 0, -1));
        FOUND.check("copy(2, 0, 1, 0, 1)", Findings::rich, Due.KIND, x -> x.copy(2, 0, 1, 0, 1));
        for (int v : new int[] {-1, MIN}) {
            FOUND.check("copy(0, v, 0, 0, 1)", Findings::rich, Due.BEYOND, x -> x.copy(0, v, 0, 0, 1));
            FOUND.check("copy(0, 0, 0, v, 1)", Findings::rich, Due.BEYOND, x -> x.copy(0, 0, 0, v, 1));
            FOUND.check("copy(0, 0, 0, 0, v)", Findings::rich, Due.BEYOND, x -> x.copy(0, 0, 0, 0, v));
        }
        FOUND.check("copy(0, 1, 0, 0, 6)", Findings::rich, Due.BEYOND, x -> x.copy(0, 1, 0, 0, 6));
        FOUND.check("copy(0, 0, 0, 1, 6)", Findings::rich, Due.BEYOND, x -> x.copy(0, 0, 0, 1, 6));
        FOUND.check("copy(0, 7, 0, 0, 0)", Findings::rich, Due.BEYOND, x -> x.copy(0, 7, 0, 0, 0));
        FOUND.check("copy(0, 0, 0, 7, 0)", Findings::rich, Due.BEYOND, x -> x.copy(0, 0, 0, 7, 0));
        FOUND.check("copy(0, 0, 0, 0, MAX)", Findings::rich, Due.BEYOND, x -> x.copy(0, 0, 0, 0, MAX));
        FOUND.check("copy(0, MAX, 0, 0, MAX)", Findings::rich, Due.BEYOND, x -> x.copy(0, MAX, 0, 0, MAX));
        FOUND.check("copy(0, 2, 0, MAX, 2)", Findings::rich, Due.BEYOND, x -> x.copy(0, 2, 0, MAX, 2));
    }

    private static void spots() {
        for (int v : new int[] {-1, 4, MIN, MAX}) {
            FOUND.check("hold(" + v + ", 0)", Findings::rich, Due.BEYOND, x -> x.hold(v, 0));
            FOUND.check("taken(" + v + ", 0)", Findings::rich, Due.BEYOND, x -> x.taken(v, 0));
        }
        for (int k : new int[] {-1, 6, MIN, MAX}) {
            FOUND.check("hold(1, " + k + ")", Findings::rich, Due.BEYOND, x -> x.hold(1, k));
        }
        for (int as : new int[] {-1, 6, MIN, MAX}) {
            FOUND.check("taken(0, " + as + ")", Findings::rich, Due.BEYOND, x -> x.taken(0, as));
            FOUND.check("taken(1, " + as + ")", Findings::rich, Due.BEYOND, x -> x.taken(1, as));
        }
        FOUND.check("taken(1, 0)", Findings::rich, Due.MISSING, x -> x.taken(1, 0));
        FOUND.check("taken(3, 5)", Findings::rich, Due.MISSING, x -> x.taken(3, 5));
        for (int as = 2; as < 6; as++) {
            int other = as;
            FOUND.check("taken(0, " + as + ") of a GUARD", Findings::rich, Due.KIND, x -> x.taken(0, other));
        }
    }

    private static void piles() {
        FOUND.check("image(), full", Findings::full, Due.FULL, x -> x.image());
        FOUND.check("back(), no image", Findings::allFallen, Due.NONE, x -> x.back());
        for (int what : new int[] {-1, 7, MIN, MAX}) {
            FOUND.check("count(" + what + ")", Findings::rich, Due.BEYOND, x -> x.count(what));
        }
        for (int which : new int[] {-2, 8, MIN, MAX}) {
            FOUND.check("status(" + which + ")", Findings::rich, Due.BEYOND, x -> x.status(which));
        }
    }
}
