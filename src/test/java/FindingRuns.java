/**
 * Each finding of each call, in the order in which it is asked: it is counted, and changes
 * nothing else. Two objects are made alike, one gets the call, and both must answer alike
 * whatever is asked of them from then on.
 */
public final class FindingRuns {
    private static final int MIN = Integer.MIN_VALUE;
    private static final int MAX = Integer.MAX_VALUE;
    private static final Due DUE = new Due();

    interface Call {
        long on(RolledPicks x);
    }

    interface Setup {
        void on(RolledPicks x);
    }

    public static void main(String[] args) {
        ordersAndStandings();
        sales();
        swaps();
        texts();
        dealsAsked();
        ownersAsked();
        worthAsked();
        roundsAsked();
        tapeAndSheets();
        spots();
        piles();
        DUE.end();
    }

    /** Six DEALS, one of them under a CONDITION; YEAR 0 has FALLEN; something of all else. */
    private static void rich(RolledPicks x) {
        x.sale(0, 2, 0, 5, 0);
        x.sale(1, 0, 1, 3, 2);
        x.swap(1, 2, 7, 8, 0);
        x.swap(1, 2, 10, 11, 2);
        x.image();
        Due.text(x, "from 0 to 1 pick 5 guard 1 if ahead 0 1 2 or lapsed 1");
        x.sale(0, 2, 1, 5, 0);
        x.fall(3);
        x.price(1, 7);
        x.seed(99);
        x.image();
        x.sale(3, 0, 2, 6, 1);
        x.sheet(0, 0, 6);
        x.sheet(1, 1, 12);
        x.sheet(2, 2, 5);
        x.write(0, 1, 5);
        x.write(1, 11, 77);
        x.write(2, 4, -1L << 40);
        x.hold(0, 1);
        x.hold(2, 4);
        Due.feed(x, "from 1 to 0 pick 4");
        DUE.is("deals of the rich object", x.count(0), 6);
    }

    /** Twelve DEALS, six images, 119 bytes on THE TAPE. */
    private static void full(RolledPicks x) {
        for (int pick = 0; pick < 12; pick++) {
            x.sale(0, pick % 3, (pick + 1) % 3, pick, 0);
        }
        for (int i = 0; i < 6; i++) {
            x.image();
        }
        for (int i = 0; i < 29; i++) {
            x.feed(0x20202020, 4);
        }
        x.feed(0x202020, 3);
        x.sheet(0, 0, 12);
    }

    private static void allFallen(RolledPicks x) {
        x.sale(0, 0, 1, 0, 0);
        x.fall(0);
        x.fall(5);
        x.fall(2);
        x.fall(4);
    }

    private static void bare(RolledPicks x) {
        x.seed(1);
    }

    private static void check(String name, Setup setup, long want, Call call) {
        RolledPicks x = new RolledPicks();
        RolledPicks y = new RolledPicks();
        setup.on(x);
        setup.on(y);
        int before = x.status(-1);
        DUE.is(name, call.on(x), want);
        boolean isLong = want < -2000000;
        long k = isLong ? Due.LONG_BEYOND - want : Due.BEYOND - want;
        for (int which = 0; which < 8; which++) {
            DUE.is(name + ", then status(" + which + ")", x.status(which), y.status(which) + (which == k ? 1 : 0));
        }
        DUE.is(name + ", then status(-1)", x.status(-1), before + 1);
        boolean clashes = want == Due.STATE && x.clash(0) >= 0;
        DUE.holds(name + " leaves all as it was", log(x, !clashes).equals(log(y, !clashes)));
    }

    /** What it answers, down to the bytes of THE TAPE and what lies in THE PILE. */
    private static String log(RolledPicks x, boolean withClash) {
        StringBuilder b = new StringBuilder();
        for (int what = 0; what < 7; what++) {
            b.append(" count ").append(x.count(what));
        }
        for (int what = 0; what < 3 && withClash; what++) {
            b.append(" clash ").append(x.clash(what));
        }
        logSheets(x, b);
        logState(x, b);
        b.append(" text ").append(x.text()).append(" of ").append(x.of(x.count(0) - 1, 3));
        int images = x.count(3);
        for (int i = 0; i <= Math.min(images, 2); i++) {
            b.append(" back ").append(x.back());
            logState(x, b);
        }
        return b.toString();
    }

    private static void logState(RolledPicks x, StringBuilder b) {
        for (int k = 0; k < x.count(0); k++) {
            b.append(" of ").append(x.of(k, 0)).append(x.of(k, 3)).append(' ').append(x.of(k, 7));
        }
        for (int year = 0; year < x.count(1); year++) {
            b.append(" fallen ").append(x.fallen(year));
        }
        for (int club = 0; club < 3; club++) {
            b.append(" value ").append(x.value(club));
        }
        for (int pick = 0; pick < 12; pick++) {
            b.append(" chance ").append(x.chance(pick, 0)).append(' ').append(x.chance(pick, 1));
        }
        for (int place = 0; place < 3; place++) {
            int was = x.price(place, 0);
            b.append(" price ").append(was).append(x.price(place, was));
        }
        for (int spot = 0; spot < 4; spot++) {
            b.append(" taken ").append(x.taken(spot, 0));
        }
        b.append(" z ").append(x.count(4));
    }

    private static void logSheets(RolledPicks x, StringBuilder b) {
        for (int s = 0; s < 4; s++) {
            long was = x.item(s, 0);
            b.append(" write ").append(x.write(s, 0, 0x1234567887654321L)).append(" item ").append(x.item(s, 0));
            x.write(s, 0, was);
            for (int i = 0; i < 13; i++) {
                b.append(' ').append(x.item(s, i));
            }
        }
    }

    private static void ordersAndStandings() {
        for (int v : new int[] {-1, MIN, MAX}) {
            check("order(v, 0)", FindingRuns::rich, Due.BEYOND, x -> x.order(v, 0));
            check("order(0, v)", FindingRuns::rich, Due.BEYOND, x -> x.order(0, v));
            check("place(v, 0)", FindingRuns::rich, Due.BEYOND, x -> x.place(v, 0));
            check("place(0, v)", FindingRuns::rich, Due.BEYOND, x -> x.place(0, v));
            check("fall(v)", FindingRuns::rich, Due.BEYOND, x -> x.fall(v));
            check("fallen(v)", FindingRuns::rich, Due.BEYOND, x -> x.fallen(v));
        }
        check("order(6, 0)", FindingRuns::rich, Due.BEYOND, x -> x.order(6, 0));
        check("order(0, 3)", FindingRuns::rich, Due.BEYOND, x -> x.order(0, 3));
        check("place(1296, 0)", FindingRuns::rich, Due.BEYOND, x -> x.place(1296, 0));
        check("place(0, 12)", FindingRuns::rich, Due.BEYOND, x -> x.place(0, 12));
        check("fall(6)", FindingRuns::rich, Due.BEYOND, x -> x.fall(6));
        check("fall(6), all fallen", FindingRuns::allFallen, Due.BEYOND, x -> x.fall(6));
        check("fall(0), all fallen", FindingRuns::allFallen, Due.NONE, x -> x.fall(0));
        check("fallen(4)", FindingRuns::allFallen, Due.BEYOND, x -> x.fallen(4));
        check("fallen(1)", FindingRuns::rich, Due.NONE, x -> x.fallen(1));
        check("fallen(0)", FindingRuns::bare, Due.NONE, x -> x.fallen(0));
    }

    private static void sales() {
        for (int kind : new int[] {-1, 2, 5, 6, MIN, MAX}) {
            check("sale(" + kind + ", 0, 1, 4, 1)", FindingRuns::rich, Due.BEYOND, x -> x.sale(kind, 0, 1, 4, 1));
        }
        for (int club : new int[] {-1, 3, MIN, MAX}) {
            check("sale(0, " + club + ", 1, 4, 1)", FindingRuns::rich, Due.BEYOND, x -> x.sale(0, club, 1, 4, 1));
            check("sale(0, 1, " + club + ", 4, 1)", FindingRuns::rich, Due.BEYOND, x -> x.sale(0, 1, club, 4, 1));
        }
        check("sale(0, 1, 1, 4, 1)", FindingRuns::rich, Due.BEYOND, x -> x.sale(0, 1, 1, 4, 1));
        for (int pick : new int[] {-1, 12, MIN, MAX}) {
            check("sale(0, 1, 0, " + pick + ", 1)", FindingRuns::rich, Due.BEYOND, x -> x.sale(0, 1, 0, pick, 1));
        }
        for (int kind : new int[] {1, 3, 4}) {
            for (int n : new int[] {-1, 0, 3, MIN, MAX}) {
                check("sale(" + kind + ", 1, 0, 4, " + n + ")", FindingRuns::rich, Due.BEYOND,
                    x -> x.sale(kind, 1, 0, 4, n));
            }
        }
        check("sale(1, 0, 1, 0, 3): n ahead of the YEAR", FindingRuns::rich, Due.BEYOND, x -> x.sale(1, 0, 1, 0, 3));
        check("sale(0, 0, 1, 0, 0)", FindingRuns::rich, Due.NONE, x -> x.sale(0, 0, 1, 0, 0));
        check("sale(0, 2, 1, 2, 0)", FindingRuns::rich, Due.NONE, x -> x.sale(0, 2, 1, 2, 0));
        check("sale(0, 2, 1, 11, 0)", FindingRuns::allFallen, Due.NONE, x -> x.sale(0, 2, 1, 11, 0));
        check("sale when full, YEAR fallen", FindingRuns::fullAndFallen, Due.NONE, x -> x.sale(0, 1, 2, 0, 0));
        check("sale when full", FindingRuns::full, Due.FULL, x -> x.sale(0, 1, 2, 0, 0));
        check("sale when full, and a CLASH", FindingRuns::full, Due.FULL, x -> x.sale(0, 0, 2, 0, 0));
        check("sale when full, n", FindingRuns::full, Due.BEYOND, x -> x.sale(4, 0, 2, 0, 0));
        check("sale with a CLASH", FindingRuns::rich, Due.STATE, x -> x.sale(0, 1, 2, 5, 0));
        check("sale(3, 0, 1, 3, 2) with a CLASH", FindingRuns::rich, Due.STATE, x -> x.sale(3, 0, 2, 3, 2));
    }

    private static void fullAndFallen(RolledPicks x) {
        full(x);
        x.fall(1);
    }

    private static void swaps() {
        for (int club : new int[] {-1, 3, MIN, MAX}) {
            check("swap(" + club + ", 1, 4, 5, 0)", FindingRuns::rich, Due.BEYOND, x -> x.swap(club, 1, 4, 5, 0));
            check("swap(1, " + club + ", 4, 5, 0)", FindingRuns::rich, Due.BEYOND, x -> x.swap(1, club, 4, 5, 0));
        }
        check("swap(1, 1, 4, 5, 0)", FindingRuns::rich, Due.BEYOND, x -> x.swap(1, 1, 4, 5, 0));
        for (int pick : new int[] {-1, 12, 13, 4, 3 + 3, 2, MIN, MAX}) {
            check("swap(1, 2, 4, " + pick + ", 0)", FindingRuns::rich, Due.BEYOND, x -> x.swap(1, 2, 4, pick, 0));
            check("swap(1, 2, " + pick + ", 4, 0)", FindingRuns::rich, Due.BEYOND, x -> x.swap(1, 2, pick, 4, 0));
        }
        for (int pick : new int[] {-1, -2, -3, MIN}) {
            check("swap(0, 1, 1, " + pick + ", 0)", FindingRuns::bare, Due.BEYOND, x -> x.swap(0, 1, 1, pick, 0));
            check("swap(0, 1, " + pick + ", 1, 0)", FindingRuns::bare, Due.BEYOND, x -> x.swap(0, 1, pick, 1, 0));
        }
        for (int n : new int[] {-1, 3, MIN, MAX}) {
            check("swap(1, 2, 4, 5, " + n + ")", FindingRuns::rich, Due.BEYOND, x -> x.swap(1, 2, 4, 5, n));
        }
        check("swap(0, 1, 0, 1, 3)", FindingRuns::rich, Due.BEYOND, x -> x.swap(0, 1, 0, 1, 3));
        check("swap(0, 1, 0, 1, 0)", FindingRuns::rich, Due.NONE, x -> x.swap(0, 1, 0, 1, 0));
        check("swap when full, YEAR fallen", FindingRuns::fullAndFallen, Due.NONE, x -> x.swap(1, 2, 0, 1, 0));
        check("swap when full", FindingRuns::full, Due.FULL, x -> x.swap(1, 2, 0, 1, 1));
        check("swap with a CLASH", FindingRuns::rich, Due.STATE, x -> x.swap(1, 2, 7, 8, 1));
    }

    private static void texts() {
        RolledPicks x = new RolledPicks();
        rich(x);
        RolledPicks y = new RolledPicks();
        rich(y);
        x.wipe();
        y.wipe();
        Due.feed(x, "from 1 to 0 pick 4; from 0 to 2 pick 5");
        DUE.is("text() with a CLASH", x.text(), Due.STATE);
        DUE.is("then bytes", x.count(5), 0);
        DUE.is("then status(4)", x.status(4), y.status(4) + 1);
        DUE.is("then status(-1)", x.status(-1), y.status(-1) + 1);
        DUE.holds("a text() with a CLASH leaves all as it was", log(x, false).equals(log(y, false)));
        RolledPicks v = new RolledPicks();
        rich(v);
        RolledPicks w = new RolledPicks();
        rich(w);
        v.wipe();
        w.wipe();
        DUE.is("text() with a FAULT", Due.text(v, "from 0 to 1 pick 5; from 1 to 0 pick 5;"), -40);
        DUE.is("then status(-1)", v.status(-1), w.status(-1));
        DUE.holds("a text() with a FAULT leaves all as it was", log(v, true).equals(log(w, true)));
    }

    private static void dealsAsked() {
        for (int k : new int[] {-1, 6, 12, MIN, MAX}) {
            check("of(" + k + ", 0)", FindingRuns::rich, Due.BEYOND, x -> x.of(k, 0));
            check("holds(" + k + ", 0)", FindingRuns::rich, Due.BEYOND, x -> x.holds(k, 0));
            check("conveys(" + k + ", 0, 0)", FindingRuns::rich, Due.BEYOND, x -> x.conveys(k, 0, 0));
        }
        check("of(0, 0), no deal", FindingRuns::bare, Due.BEYOND, x -> x.of(0, 0));
        for (int what : new int[] {-1, 8, MIN, MAX}) {
            check("of(0, " + what + ")", FindingRuns::rich, Due.BEYOND, x -> x.of(0, what));
        }
        for (int standing : new int[] {-1, 1296, MIN, MAX}) {
            check("holds(0, " + standing + ")", FindingRuns::rich, Due.BEYOND, x -> x.holds(0, standing));
            check("conveys(0, " + standing + ", 0)", FindingRuns::rich, Due.BEYOND, x -> x.conveys(0, standing, 0));
        }
        for (int what : new int[] {-1, 2, MIN, MAX}) {
            check("conveys(0, 0, " + what + ")", FindingRuns::rich, Due.BEYOND, x -> x.conveys(0, 0, what));
        }
        check("conveys(1, 0, 0)", FindingRuns::rich, Due.NONE, x -> x.conveys(1, 0, 0));
        check("conveys(0, 0, 1)", FindingRuns::rich, Due.NONE, x -> x.conveys(0, 0, 1));
        check("drop(), no deal", FindingRuns::bare, Due.NONE, x -> x.drop());
        for (int what : new int[] {-1, 3, MIN, MAX}) {
            check("clash(" + what + ")", FindingRuns::rich, Due.BEYOND, x -> x.clash(what));
        }
    }

    private static void ownersAsked() {
        for (int s : new int[] {-1, 0, 647, 864, 1296, MIN, MAX}) {
            check("owner(" + s + ", 5)", FindingRuns::rich, Due.BEYOND, x -> x.owner(s, 5));
            check("chain(" + s + ", 5, 0)", FindingRuns::rich, Due.BEYOND, x -> x.chain(s, 5, 0));
            check("hand(" + s + ", 0)", FindingRuns::rich, Due.BEYOND, x -> x.hand(s, 0));
        }
        for (int pick : new int[] {-1, 12, MIN, MAX}) {
            check("owner(700, " + pick + ")", FindingRuns::rich, Due.BEYOND, x -> x.owner(700, pick));
            check("chain(700, " + pick + ", 0)", FindingRuns::rich, Due.BEYOND, x -> x.chain(700, pick, 0));
            check("owners(" + pick + ")", FindingRuns::rich, Due.BEYOND, x -> x.owners(pick));
            check("sure(" + pick + ")", FindingRuns::rich, Due.BEYOND, x -> x.sure(pick));
            check("chance(" + pick + ", 0)", FindingRuns::rich, Due.BEYOND, x -> x.chance(pick, 0));
            check("least(" + pick + ", 0)", FindingRuns::rich, Due.BEYOND, x -> x.least(pick, 0));
        }
        for (int i : new int[] {1, 2, 3, MAX, -2, -3, MIN, MIN + 1}) {
            check("chain(700, 4, " + i + ")", FindingRuns::rich, Due.NONE, x -> x.chain(700, 4, i));
            check("chain(0, 4, " + i + "), not OPEN", FindingRuns::rich, Due.BEYOND, x -> x.chain(0, 4, i));
            check("chain(700, -1, " + i + ")", FindingRuns::rich, Due.BEYOND, x -> x.chain(700, -1, i));
        }
        for (int club : new int[] {-1, 3, MIN, MAX}) {
            check("hand(700, " + club + ")", FindingRuns::rich, Due.BEYOND, x -> x.hand(700, club));
            check("chance(5, " + club + ")", FindingRuns::rich, Due.BEYOND, x -> x.chance(5, club));
            check("least(5, " + club + ")", FindingRuns::rich, Due.BEYOND, x -> x.least(5, club));
        }
        check("sure(3)", FindingRuns::rich, Due.NONE, x -> x.sure(3));
        check("least(4, 0)", FindingRuns::rich, Due.NONE, x -> x.least(4, 0));
    }

    private static void worthAsked() {
        for (int v : new int[] {-1, 3, MIN, MAX}) {
            check("price(" + v + ", 1)", FindingRuns::rich, Due.BEYOND, x -> x.price(v, 1));
            check("worth(700, " + v + ")", FindingRuns::rich, Due.BEYOND, x -> x.worth(700, v));
            check("value(" + v + ")", FindingRuns::rich, Due.LONG_BEYOND, x -> x.value(v));
            check("best(" + v + ", 0)", FindingRuns::rich, Due.BEYOND, x -> x.best(v, 0));
            check("hope(" + v + ")", FindingRuns::rich, Due.BEYOND, x -> x.hope(v));
        }
        for (int v : new int[] {-1, 1000, MIN, MAX}) {
            check("price(0, " + v + ")", FindingRuns::rich, Due.BEYOND, x -> x.price(0, v));
        }
        for (int s : new int[] {-1, 0, 647, 864, 1296, MIN, MAX}) {
            check("worth(" + s + ", 0)", FindingRuns::rich, Due.BEYOND, x -> x.worth(s, 0));
        }
        for (int what : new int[] {-1, 2, MIN, MAX}) {
            check("best(0, " + what + ")", FindingRuns::rich, Due.BEYOND, x -> x.best(0, what));
        }
        check("hope(3), all fallen", FindingRuns::allFallen, Due.BEYOND, x -> x.hope(3));
        check("hope(0), all fallen", FindingRuns::allFallen, Due.NONE, x -> x.hope(0));
    }

    private static void roundsAsked() {
        for (int v : new int[] {-1, 4, MIN, MAX}) {
            check("rounds(" + v + ", 700)", FindingRuns::rich, Due.BEYOND, x -> x.rounds(v, 700));
            check("lays(" + v + ", 700)", FindingRuns::rich, Due.BEYOND, x -> x.lays(v, 700));
            check("judge(" + v + ", 700)", FindingRuns::rich, Due.BEYOND, x -> x.judge(v, 700));
        }
        for (int s : new int[] {-1, 0, 647, 864, 1296, MIN, MAX}) {
            check("rounds(3, " + s + ")", FindingRuns::rich, Due.BEYOND, x -> x.rounds(3, s));
            check("lays(3, " + s + ")", FindingRuns::rich, Due.BEYOND, x -> x.lays(3, s));
            check("judge(3, " + s + ")", FindingRuns::rich, Due.BEYOND, x -> x.judge(3, s));
            check("lays(1, " + s + ")", FindingRuns::rich, Due.BEYOND, x -> x.lays(1, s));
        }
        check("rounds(3, 700)", FindingRuns::rich, Due.MISSING, x -> x.rounds(3, 700));
        check("lays(3, 700)", FindingRuns::rich, Due.MISSING, x -> x.lays(3, 700));
        check("judge(3, 700)", FindingRuns::rich, Due.MISSING, x -> x.judge(3, 700));
        check("rounds(2, 700), too few", FindingRuns::rich, Due.SIZE, x -> x.rounds(2, 700));
        check("rounds(0, 700), one twice", FindingRuns::rich, Due.STATE, x -> x.rounds(0, 700));
        check("rounds(1, 700), too many", FindingRuns::rich, Due.SIZE, x -> x.rounds(1, 700));
        check("rounds(0, 0), all 0", FindingRuns::full, Due.STATE, x -> x.rounds(0, 0));
    }

    private static void tapeAndSheets() {
        for (int n : new int[] {-1, 0, 5, MIN, MAX}) {
            check("feed(0, " + n + ")", FindingRuns::rich, Due.BEYOND, x -> x.feed(0, n));
            check("feed(0, " + n + "), full", FindingRuns::full, Due.BEYOND, x -> x.feed(0, n));
        }
        for (int n = 2; n <= 4; n++) {
            int bytes = n;
            check("feed(0, " + n + "), full", FindingRuns::full, Due.FULL, x -> x.feed(0, bytes));
        }
        for (int s : new int[] {-1, 4, MIN, MAX}) {
            check("sheet(" + s + ", 0, 3)", FindingRuns::rich, Due.BEYOND, x -> x.sheet(s, 0, 3));
            check("sheet(" + s + ", -1, 3)", FindingRuns::rich, Due.BEYOND, x -> x.sheet(s, -1, 3));
            check("sheet(" + s + ", 0, -1)", FindingRuns::rich, Due.BEYOND, x -> x.sheet(s, 0, -1));
            check("write(" + s + ", 0, 3)", FindingRuns::rich, Due.BEYOND, x -> x.write(s, 0, 3));
            check("item(" + s + ", 0)", FindingRuns::rich, Due.LONG_BEYOND, x -> x.item(s, 0));
            check("copy(" + s + ", 0, 1, 0, 1)", FindingRuns::rich, Due.BEYOND, x -> x.copy(s, 0, 1, 0, 1));
            check("copy(3, 0, " + s + ", 0, 1)", FindingRuns::rich, Due.BEYOND, x -> x.copy(3, 0, s, 0, 1));
        }
        for (int sort : new int[] {-2, 3, MIN, MAX}) {
            check("sheet(0, " + sort + ", 3)", FindingRuns::rich, Due.BEYOND, x -> x.sheet(0, sort, 3));
            check("sheet(0, " + sort + ", -1)", FindingRuns::rich, Due.BEYOND, x -> x.sheet(0, sort, -1));
        }
        check("sheet(0, 1, -1)", FindingRuns::rich, Due.SIZE, x -> x.sheet(0, 1, -1));
        check("sheet(0, 1, MIN)", FindingRuns::rich, Due.SIZE, x -> x.sheet(0, 1, MIN));
        check("sheet(0, 1, 41)", FindingRuns::rich, Due.BEYOND, x -> x.sheet(0, 1, 41));
        check("sheet(0, 1, MAX)", FindingRuns::rich, Due.BEYOND, x -> x.sheet(0, 1, MAX));
        check("write(3, -1, 0)", FindingRuns::rich, Due.MISSING, x -> x.write(3, -1, 0));
        check("item(3, -1)", FindingRuns::rich, Due.LONG_MISSING, x -> x.item(3, -1));
        for (int i : new int[] {-1, 6, MIN, MAX}) {
            check("write(0, " + i + ", 1)", FindingRuns::rich, Due.BEYOND, x -> x.write(0, i, 1));
            check("item(0, " + i + ")", FindingRuns::rich, Due.LONG_BEYOND, x -> x.item(0, i));
        }
        copies();
    }

    private static void copies() {
        check("copy(0, 0, 3, 0, 99)", FindingRuns::rich, Due.MISSING, x -> x.copy(0, 0, 3, 0, 99));
        check("copy(3, 0, 0, 0, 1)", FindingRuns::rich, Due.MISSING, x -> x.copy(3, 0, 0, 0, 1));
        check("copy(0, 0, 1, 0, -1)", FindingRuns::rich, Due.KIND, x -> x.copy(0, 0, 1, 0, -1));
        check("copy(2, 0, 1, 0, 1)", FindingRuns::rich, Due.KIND, x -> x.copy(2, 0, 1, 0, 1));
        for (int v : new int[] {-1, MIN}) {
            check("copy(0, v, 0, 0, 1)", FindingRuns::rich, Due.BEYOND, x -> x.copy(0, v, 0, 0, 1));
            check("copy(0, 0, 0, v, 1)", FindingRuns::rich, Due.BEYOND, x -> x.copy(0, 0, 0, v, 1));
            check("copy(0, 0, 0, 0, v)", FindingRuns::rich, Due.BEYOND, x -> x.copy(0, 0, 0, 0, v));
        }
        check("copy(0, 1, 0, 0, 6)", FindingRuns::rich, Due.BEYOND, x -> x.copy(0, 1, 0, 0, 6));
        check("copy(0, 0, 0, 1, 6)", FindingRuns::rich, Due.BEYOND, x -> x.copy(0, 0, 0, 1, 6));
        check("copy(0, 7, 0, 0, 0)", FindingRuns::rich, Due.BEYOND, x -> x.copy(0, 7, 0, 0, 0));
        check("copy(0, 0, 0, 7, 0)", FindingRuns::rich, Due.BEYOND, x -> x.copy(0, 0, 0, 7, 0));
        check("copy(0, 0, 0, 0, MAX)", FindingRuns::rich, Due.BEYOND, x -> x.copy(0, 0, 0, 0, MAX));
        check("copy(0, MAX, 0, 0, MAX)", FindingRuns::rich, Due.BEYOND, x -> x.copy(0, MAX, 0, 0, MAX));
        check("copy(0, 2, 0, MAX, 2)", FindingRuns::rich, Due.BEYOND, x -> x.copy(0, 2, 0, MAX, 2));
    }

    private static void spots() {
        for (int v : new int[] {-1, 4, MIN, MAX}) {
            check("hold(" + v + ", 0)", FindingRuns::rich, Due.BEYOND, x -> x.hold(v, 0));
            check("taken(" + v + ", 0)", FindingRuns::rich, Due.BEYOND, x -> x.taken(v, 0));
        }
        for (int k : new int[] {-1, 6, MIN, MAX}) {
            check("hold(1, " + k + ")", FindingRuns::rich, Due.BEYOND, x -> x.hold(1, k));
        }
        for (int as : new int[] {-1, 6, MIN, MAX}) {
            check("taken(0, " + as + ")", FindingRuns::rich, Due.BEYOND, x -> x.taken(0, as));
            check("taken(1, " + as + ")", FindingRuns::rich, Due.BEYOND, x -> x.taken(1, as));
        }
        check("taken(1, 0)", FindingRuns::rich, Due.MISSING, x -> x.taken(1, 0));
        check("taken(3, 5)", FindingRuns::rich, Due.MISSING, x -> x.taken(3, 5));
        for (int as = 2; as < 6; as++) {
            int other = as;
            check("taken(0, " + as + ") of a GUARD", FindingRuns::rich, Due.KIND, x -> x.taken(0, other));
        }
    }

    private static void piles() {
        check("image(), full", FindingRuns::full, Due.FULL, x -> x.image());
        check("back(), no image", FindingRuns::allFallen, Due.NONE, x -> x.back());
        for (int what : new int[] {-1, 7, MIN, MAX}) {
            check("count(" + what + ")", FindingRuns::rich, Due.BEYOND, x -> x.count(what));
        }
        for (int which : new int[] {-2, 8, MIN, MAX}) {
            check("status(" + which + ")", FindingRuns::rich, Due.BEYOND, x -> x.status(which));
        }
    }
}
