/** Promises 7, 8 and 10 to 15 at their edges: no DEAL, twelve, refused ones, the ends of n and of OPEN. */
public final class DealEdges {
    private static final int MIN = Integer.MIN_VALUE;
    private static final int MAX = Integer.MAX_VALUE;
    private static final Due DUE = new Due();

    public static void main(String[] args) {
        guardsAtEachPlace();
        rollsAtEachYear();
        swapsAtEachDistance();
        numbersOfSales();
        refusedSales();
        refusedSwaps();
        refusedRolls();
        clashAtTheEndsOfOpen();
        noClashOutsideOpen();
        leastPickOfAClash();
        leastSortOfAClash();
        latestClash();
        fullOfDeals();
        fallenYears();
        lapsingCounts();
        askedOfAnyStanding();
        askedOfNone();
        drops();
        prunes();
        DUE.end();
    }

    private static void isClash(RolledPicks x, String of, int standing, int pick, int sort) {
        DUE.is(of + ": clash(0)", x.clash(0), standing);
        DUE.is(of + ": clash(1)", x.clash(1), pick);
        DUE.is(of + ": clash(2)", x.clash(2), sort);
        DUE.is(of + ": clash(3)", x.clash(3), Due.BEYOND);
        DUE.is(of + ": clash(-1)", x.clash(-1), Due.BEYOND);
    }

    /** Terms 2: n or more of a GUARD, less than n of a TAIL, at each place, in each YEAR. */
    private static void guardsAtEachPlace() {
        int[] standingOfPlace = {0, 2, 3};
        int[] step = {216, 36, 6, 1};
        for (int year = 0; year < 4; year++) {
            for (int n = 1; n <= 2; n++) {
                RolledPicks x = new RolledPicks();
                int pick = 3 * year;
                DUE.is("GUARD", x.sale(1, 0, 1, pick, n), 0);
                DUE.is("TAIL", x.sale(4, 0, 2, pick, n), 1);
                for (int place = 0; place < 3; place++) {
                    int s = standingOfPlace[place] * step[year];
                    String at = " " + n + " of PICK " + pick + " at place " + place;
                    DUE.is("place", x.place(s, pick), place);
                    DUE.is("GUARD" + at, x.conveys(0, s, 0), place >= n ? pick : Due.NONE);
                    DUE.is("TAIL" + at, x.conveys(1, s, 0), place < n ? pick : Due.NONE);
                    DUE.is("owner" + at, x.owner(s, pick), place >= n ? 1 : 2);
                }
            }
        }
    }

    /** Terms 2: n is 1 less for each YEAR farther, till the last YEAR. */
    private static void rollsAtEachYear() {
        int[] step = {216, 36, 6, 1};
        int[] standingOfPlace = {0, 2, 3};
        for (int year = 0; year < 4; year++) {
            for (int n = 1; n <= 2; n++) {
                RolledPicks x = new RolledPicks();
                x.sale(3, 0, 1, 3 * year, n);
                String of = "ROLL " + n + " from YEAR " + year;
                int held = year + n < 4 ? 3 * (year + n) : Due.NONE;
                DUE.is(of + " with place 0 throughout", x.conveys(0, 0, 0), held);
                DUE.is(of + " at once", x.conveys(0, standingOfPlace[n] * step[year], 0), 3 * year);
                if (year < 3 && n == 2) {
                    int late = 2 * step[year] + 2 * step[year + 1];
                    DUE.is(of + " a YEAR on, at place 1", x.conveys(0, late, 0), 3 * year + 3);
                }
                DUE.is(of + " TO FROM", x.conveys(0, 0, 1), Due.NONE);
            }
        }
        RolledPicks x = new RolledPicks();
        x.sale(3, 2, 0, 8, 2);
        DUE.is("just short in both YEARS", x.conveys(0, 6 + 4, 0), Due.NONE);
        DUE.is("enough in the last YEAR", x.conveys(0, 6 + 3, 0), 11);
        DUE.is("enough in the first", x.conveys(0, 4, 0), 8);
        DUE.is("of(0, 7)", x.of(0, 7), 1296 - 1296 * 2 / 9);
    }

    /** Terms 2: less, and less by n or more, at each distance of the places. */
    private static void swapsAtEachDistance() {
        // by ORDER: how much less the place of CLUB 0 is than that of CLUB 2
        int[] less = {2, 1, 1, -1, -1, -2};
        for (int n = 0; n <= 2; n++) {
            for (int first = 0; first < 12; first += 3) {
                RolledPicks x = new RolledPicks();
                DUE.is("swap", x.swap(2, 0, first + 2, first, n), 0);
                DUE.is("KIND", x.of(0, 0), n == 0 ? 2 : 5);
                DUE.is("n", x.of(0, 5), n);
                int step = new int[] {216, 36, 6, 1}[first / 3];
                for (int order = 0; order < 6; order++) {
                    boolean goes = less[order] >= Math.max(1, n);
                    String at = "swap with n " + n + " of YEAR " + first / 3 + " under ORDER " + order;
                    DUE.is(at, x.conveys(0, order * step, 0), goes ? first + 2 : Due.NONE);
                    DUE.is(at, x.conveys(0, order * step, 1), goes ? first : Due.NONE);
                    DUE.is(at, x.owner(order * step, first), goes ? 2 : 0);
                }
            }
        }
    }

    /** Promise 7: the number of a DEAL, at the ends of n. */
    private static void numbersOfSales() {
        RolledPicks x = new RolledPicks();
        DUE.is("DEAL, n MIN", x.sale(0, 0, 1, 0, MIN), 0);
        DUE.is("DEAL, n MAX", x.sale(0, 0, 2, 3, MAX), 1);
        DUE.is("GUARD 1", x.sale(1, 0, 1, 6, 1), 2);
        DUE.is("GUARD 2", x.sale(1, 1, 2, 6, 2), 3);
        DUE.is("ROLL 1", x.sale(3, 1, 2, 7, 1), 4);
        DUE.is("ROLL 2", x.sale(3, 2, 0, 2, 2), 5);
        DUE.is("TAIL 1", x.sale(4, 1, 0, 1, 1), 6);
        DUE.is("TAIL 2", x.sale(4, 1, 0, 4, 2), 7);
        int[] kinds = {0, 0, 1, 1, 3, 3, 4, 4};
        int[] numbers = {0, 0, 1, 2, 1, 2, 1, 2};
        for (int k = 0; k < 8; k++) {
            DUE.is("of(" + k + ", 0)", x.of(k, 0), kinds[k]);
            DUE.is("of(" + k + ", 4)", x.of(k, 4), -1);
            DUE.is("of(" + k + ", 5)", x.of(k, 5), numbers[k]);
            DUE.is("of(" + k + ", 6)", x.of(k, 6), 0);
        }
        int[] kindsBeside = {-1, 2, 5, 6, MIN, MAX};
        for (int kind : kindsBeside) {
            DUE.is("sale of KIND " + kind, x.sale(kind, 2, 0, 11, 1), Due.BEYOND);
        }
        for (int kind : new int[] {1, 3, 4}) {
            DUE.is("n 0 of KIND " + kind, x.sale(kind, 2, 0, 11, 0), Due.BEYOND);
            DUE.is("n 3 of KIND " + kind, x.sale(kind, 2, 0, 11, 3), Due.BEYOND);
        }
        DUE.is("FROM and TO the same", x.sale(0, 2, 2, 11, 0), Due.BEYOND);
        DUE.is("count(0)", x.count(0), 8);
        DUE.is("the next number", x.sale(0, 2, 0, 11, 0), 8);
    }

    /** Promise 7, STATE: nothing of a refused DEAL stays but THE CLASH, and its number is the next one's. */
    private static void refusedSales() {
        for (int kind : new int[] {0, 1, 3, 4}) {
            RolledPicks x = new RolledPicks();
            x.sale(0, 2, 0, 11, 0);
            DUE.is("KIND " + kind, x.sale(kind, 2, 1, 11, kind == 4 ? 2 : 1), Due.STATE);
            isClash(x, "KIND " + kind, kind == 4 ? 1 : 0, 11, 0);
            DUE.is("count(0)", x.count(0), 1);
            DUE.is("of(1, 0)", x.of(1, 0), Due.BEYOND);
            DUE.is("holds(1, 0)", x.holds(1, 0), Due.BEYOND);
            DUE.is("hold(0, 1)", x.hold(0, 1), Due.BEYOND);
            DUE.is("sure(11)", x.sure(11), 0);
            DUE.is("chain(0, 11, -1)", x.chain(0, 11, -1), 2);
            DUE.is("status(4)", x.status(4), 1);
            DUE.is("the next number", x.sale(0, 0, 1, 3, 0), 1);
            DUE.is("sure(3)", x.sure(3), 1);
        }
    }

    private static void refusedSwaps() {
        for (int n = 0; n <= 2; n++) {
            RolledPicks x = new RolledPicks();
            x.sale(0, 2, 1, 11, 0);
            DUE.is("swap with n " + n, x.swap(2, 0, 11, 9, n), Due.STATE);
            isClash(x, "swap with n " + n, 0, 11, 0);
            DUE.is("none of the other PICK either", x.sure(9), 0);
            DUE.is("of(1, 4)", x.of(1, 4), Due.BEYOND);
            DUE.is("count(0)", x.count(0), 1);
            DUE.is("the next number", x.swap(2, 0, 8, 6, n), 1);
            isClash(x, "one that is taken leaves it", 0, 11, 0);
        }
        RolledPicks x = new RolledPicks();
        x.sale(0, 0, 1, 9, 0);
        DUE.is("CHOICE 2, for its other PICK", x.swap(2, 0, 11, 9, 2), Due.STATE);
        isClash(x, "CHOICE 2, for its other PICK", 0, 9, 0);
        DUE.is("sure(11)", x.sure(11), 2);
    }

    /** A ROLL is refused for whichever PICK it comes to. */
    private static void refusedRolls() {
        int[] picks = {3, 6, 9};
        int[] standings = {108, 12, 0};
        for (int i = 0; i < 3; i++) {
            RolledPicks x = new RolledPicks();
            x.sale(0, 0, 1, picks[i], 0);
            DUE.is("ROLL 2 over PICK 3, " + picks[i] + " sold", x.sale(3, 0, 2, 3, 2), Due.STATE);
            isClash(x, "ROLL 2, " + picks[i] + " sold", standings[i], picks[i], 0);
            DUE.is("as a second from 1", x.sale(3, 1, 2, 3, 2), Due.STATE);
        }
        RolledPicks x = new RolledPicks();
        x.sale(0, 0, 1, 9, 0);
        DUE.is("ROLL 1 over PICK 3 comes to no PICK 9", x.sale(3, 0, 2, 3, 1), 1);
        DUE.is("ROLL 1 over PICK 6 does", x.sale(3, 0, 2, 6, 1), Due.STATE);
        // with PICK 6 at place 0 it comes to PICK 9, and that is ahead of where both convey PICK 6
        isClash(x, "ROLL 1 over PICK 6", 0, 9, 0);
    }

    private static final int FIRST = 0;
    private static final int LAST = 1295;

    /** A CLASH in one STANDING alone, the first or the last OPEN one, refuses. */
    private static void clashAtTheEndsOfOpen() {
        for (int standing : new int[] {FIRST, LAST, 648, 863}) {
            RolledPicks x = new RolledPicks();
            DUE.is("text()", Due.text(x, Texts.deal(0, 1, 9, standing)), 1);
            DUE.is("of(0, 7)", x.of(0, 7), 1);
            DUE.is("sale", x.sale(0, 0, 2, 9, 0), Due.STATE);
            isClash(x, "one STANDING", standing, 9, 0);
            DUE.is("from 1 all others are outside", x.sale(0, 1, 2, 9, 0), Due.STATE);
            isClash(x, "all others", standing == 0 ? 1 : 0, 9, 2);
        }
        RolledPicks x = new RolledPicks();
        x.fall(3);
        Due.text(x, Texts.deal(0, 1, 9, 863));
        DUE.is("the last OPEN one", x.sale(0, 0, 2, 9, 0), Due.STATE);
        isClash(x, "the last OPEN one", 863, 9, 0);
        x.drop();
        Due.text(x, Texts.deal(0, 1, 9, 648));
        DUE.is("the first OPEN one", x.sale(0, 0, 2, 9, 0), Due.STATE);
        isClash(x, "the first OPEN one", 648, 9, 0);
    }

    private static void noClashOutsideOpen() {
        for (int standing : new int[] {FIRST, 647, 864, LAST}) {
            RolledPicks x = new RolledPicks();
            x.fall(3);
            DUE.is("text()", Due.text(x, Texts.deal(0, 1, 9, standing)), 1);
            DUE.is("of(0, 7)", x.of(0, 7), 0);
            DUE.is("conveys(0, " + standing + ", 0)", x.conveys(0, standing, 0), 9);
            DUE.is("sale", x.sale(0, 0, 2, 9, 0), 1);
            DUE.is("sure(9)", x.sure(9), 2);
            DUE.is("clash(0)", x.clash(0), -1);
            DUE.is("prune()", x.prune(), 1);
            DUE.is("of(0, 2)", x.of(0, 2), 2);
        }
    }

    /** THE CLASH is of the least STANDING, of like ones of the least PICK. */
    private static void leastPickOfAClash() {
        RolledPicks x = new RolledPicks();
        x.sale(0, 0, 2, 9, 0);
        x.sale(0, 1, 2, 10, 0);
        x.swap(1, 0, 10, 9, 0);
        isClash(x, "both CLASH, the other is less", 0, 9, 0);
        x.swap(0, 1, 9, 10, 0);
        isClash(x, "both CLASH, the PICK is less", 2, 9, 0);
        RolledPicks y = new RolledPicks();
        y.sale(0, 1, 2, 10, 0);
        y.swap(1, 0, 10, 9, 0);
        isClash(y, "the greater alone", 0, 10, 0);
        y.swap(1, 2, 10, 9, 0);
        isClash(y, "of unlike sorts the least PICK's", 0, 9, 2);
        RolledPicks z = new RolledPicks();
        z.sale(0, 0, 1, 3, 0);
        z.sale(0, 0, 1, 9, 0);
        DUE.is("ROLL", z.sale(3, 0, 2, 3, 2), Due.STATE);
        isClash(z, "the least STANDING ahead of the least PICK", 0, 9, 0);
    }

    /** Of several sorts of one PICK the least. */
    private static void leastSortOfAClash() {
        RolledPicks x = new RolledPicks();
        x.sale(0, 2, 0, 8, 0);
        x.sale(0, 0, 1, 8, 0);
        DUE.is("twice from one, and back to the first", x.sale(0, 0, 2, 8, 0), Due.STATE);
        isClash(x, "twice from one, and back to the first", 0, 8, 0);
        DUE.is("twice from the first, and back", x.sale(0, 2, 1, 8, 0), Due.STATE);
        isClash(x, "twice from the first", 0, 8, 0);
        DUE.is("back to the first alone", x.sale(0, 1, 2, 8, 0), Due.STATE);
        isClash(x, "back to the first alone", 0, 8, 1);
        DUE.is("back to the middle alone", x.sale(0, 1, 0, 8, 0), Due.STATE);
        isClash(x, "back to the middle alone", 0, 8, 1);
        RolledPicks y = new RolledPicks();
        DUE.is("from one that is none of the CHAIN", y.sale(0, 1, 2, 8, 0), Due.STATE);
        isClash(y, "from one that is none of the CHAIN", 0, 8, 2);
        DUE.is("to the one who has it, from outside", y.sale(0, 1, 2, 11, 0), Due.STATE);
        isClash(y, "to the one who has it, from outside", 0, 11, 2);
    }

    /** Promise 15: THE CLASH is of the latest act that a DEAL ended so, whatever comes then. */
    private static void latestClash() {
        RolledPicks x = new RolledPicks();
        for (int what = 0; what < 3; what++) {
            DUE.is("none yet", x.clash(what), -1);
        }
        x.image();
        x.sale(0, 0, 1, 0, 0);
        x.sale(1, 0, 2, 0, 2);
        isClash(x, "a sale", 648, 0, 0);
        x.swap(0, 2, 0, 1, 2);
        isClash(x, "a swap", 648, 0, 0);
        x.swap(0, 2, 3, 4, 0);
        isClash(x, "of a swap", 72, 4, 2);
        DUE.is("text()", Due.text(x, "from 2 to 1 pick 11;from 2 to 0 pick 11 tail 1"), Due.STATE);
        isClash(x, "a text", 4, 11, 0);
        x.sale(0, 1, 2, 0, 0);
        isClash(x, "a sale that is taken leaves it", 4, 11, 0);
        x.sale(0, 1, 1, 0, 0);
        x.sale(9, 1, 1, 0, 0);
        x.swap(0, 1, 0, 0, 0);
        Due.text(x, "from 2 to 1 pick 0;");
        x.drop();
        x.prune();
        x.wipe();
        isClash(x, "no other act leaves another", 4, 11, 0);
        x.fall(0);
        x.sale(0, 1, 2, 0, 0);
        isClash(x, "nor does a FALLEN YEAR", 4, 11, 0);
        x.back();
        isClash(x, "nor back()", 4, 11, 0);
    }

    /** FULL: twelve DEALS, taken by sale(), swap() and text() alike. */
    private static void fullOfDeals() {
        RolledPicks x = new RolledPicks();
        for (int pick = 0; pick < 11; pick++) {
            DUE.is("sale", x.sale(1, pick % 3, (pick + 1) % 3, pick, 1), pick);
        }
        x.image();
        DUE.is("a 12th by sale()", x.sale(0, 2, 0, 11, 0), 11);
        isFull(x);
        DUE.is("back()", x.back(), 11);
        x.image();
        DUE.is("a 12th by swap()", x.swap(2, 1, 11, 10, 0), Due.STATE);
        DUE.is("a 12th by swap()", x.swap(2, 0, 11, 9, 0), Due.STATE);
        DUE.is("back()", x.back(), 11);
        DUE.is("a 12th by text()", Due.text(x, "from 2 to 0 pick 11"), 1);
        isFull(x);
        DUE.is("drop()", x.drop(), 11);
        DUE.is("a 12th again", x.sale(4, 2, 1, 11, 2), 11);
        isFull(x);
        DUE.is("status(1)", x.status(1), 6);
        RolledPicks y = new RolledPicks();
        for (int pick = 0; pick < 12; pick++) {
            y.sale(0, pick % 3, (pick + 1) % 3, pick, 0);
        }
        y.drop();
        y.drop();
        DUE.is("an 11th by swap()", y.swap(1, 2, 10, 11, 0), 10);
        DUE.is("a 12th by swap()", y.swap(1, 0, 10, 9, 0), Due.STATE);
        DUE.is("a 12th by swap()", y.swap(2, 1, 11, 10, 2), 11);
        isFull(y);
    }

    private static void isFull(RolledPicks x) {
        DUE.is("count(0)", x.count(0), 12);
        DUE.is("a 13th by sale()", x.sale(0, 1, 2, 0, 0), Due.FULL);
        DUE.is("a 13th by swap()", x.swap(1, 2, 0, 1, 0), Due.FULL);
        DUE.is("a 13th by text()", Due.text(x, "from 1 to 2 pick 0"), -1);
        DUE.is("count(0)", x.count(0), 12);
        DUE.is("of(12, 0)", x.of(12, 0), Due.BEYOND);
        DUE.is("of(11, 6)", x.of(11, 6), 0);
        DUE.is("hold(0, 11)", x.hold(0, 11), 1);
        DUE.is("hold(0, 12)", x.hold(0, 12), Due.BEYOND);
    }

    /** NONE: the last PICK of each YEAR that has FALLEN, and not the first of the next. */
    private static void fallenYears() {
        RolledPicks x = new RolledPicks();
        for (int falls = 1; falls <= 4; falls++) {
            x.fall(1);
            for (int pick = 0; pick < 3 * falls; pick++) {
                DUE.is("sale of " + pick, x.sale(0, pick % 3, (pick + 1) % 3, pick, 0), Due.NONE);
                int other = pick / 3 * 3 + (pick + 1) % 3;
                DUE.is("swap of " + pick, x.swap(0, 1, pick, other, 2), Due.NONE);
            }
            if (falls < 4) {
                DUE.is("sale of the next", x.sale(0, 0, 1, 3 * falls, 0), 0);
                x.drop();
                DUE.is("swap of the next", x.swap(1, 0, 3 * falls + 1, 3 * falls, 0), 0);
                x.drop();
            }
        }
        DUE.is("status(3)", x.status(3), 2 * (3 + 6 + 9 + 12));
        DUE.is("count(0)", x.count(0), 0);
    }

    /** Promise 10, what 7: in no, in one, in all OPEN STANDINGS. */
    private static void lapsingCounts() {
        RolledPicks x = new RolledPicks();
        x.sale(0, 0, 1, 9, 0);
        Due.text(x, Texts.deal(1, 2, 9, LAST));
        Due.text(x, "from 2 to 0 pick 11 if at 3 2 0 and at 3 2 1");
        Due.text(x, "from 1 to 0 pick 10 if not lapsed 0");
        int[][] due = {{1296, 1, 0, 1296}, {216, 1, 0, 216}, {36, 1, 0, 36}, {6, 1, 0, 6}, {1, 1, 0, 1}};
        for (int falls = 0; falls <= 4; falls++) {
            for (int k = 0; k < 4; k++) {
                DUE.is("of(" + k + ", 7) with " + falls + " FALLEN", x.of(k, 7), due[falls][k]);
            }
            x.fall(5);
        }
        RolledPicks y = new RolledPicks();
        y.fall(4);
        Due.text(y, Texts.deal(0, 1, 9, LAST));
        DUE.is("of one that is not OPEN", y.of(0, 7), 0);
    }

    /** Promises 11 and 12 take STANDINGS that aren't OPEN, too. */
    private static void askedOfAnyStanding() {
        RolledPicks x = new RolledPicks();
        Due.text(x, "from 0 to 1 pick 9 guard 2 if at 0 0 0");
        x.swap(1, 2, 7, 8, 0);
        x.sale(0, 2, 0, 11, 0);
        for (int falls = 0; falls <= 4; falls++) {
            DUE.is("holds(0, 0)", x.holds(0, 0), 1);
            DUE.is("holds(0, 431)", x.holds(0, 431), 1);
            DUE.is("holds(0, 432)", x.holds(0, 432), 0);
            DUE.is("holds(0, 1295)", x.holds(0, 1295), 0);
            DUE.is("holds(1, 0), none told", x.holds(1, 0), 1);
            DUE.is("holds(1, 1295), none told", x.holds(1, 1295), 1);
            DUE.is("conveys(0, 3, 0)", x.conveys(0, 3, 0), 9);
            DUE.is("conveys(0, 435, 0), where the CONDITION doesn't hold", x.conveys(0, 435, 0), Due.NONE);
            DUE.is("conveys(0, 2, 0), where the GUARD doesn't", x.conveys(0, 2, 0), Due.NONE);
            DUE.is("conveys(0, 3, 1)", x.conveys(0, 3, 1), Due.NONE);
            DUE.is("conveys(1, 6, 0)", x.conveys(1, 6, 0), 7);
            DUE.is("conveys(1, 6, 1)", x.conveys(1, 6, 1), 8);
            DUE.is("conveys(1, 5, 1)", x.conveys(1, 5, 1), Due.NONE);
            DUE.is("conveys(2, 1295, 0)", x.conveys(2, 1295, 0), 11);
            DUE.is("conveys(2, 1295, 1)", x.conveys(2, 1295, 1), Due.NONE);
            DUE.is("conveys(2, 1296, 0)", x.conveys(2, 1296, 0), Due.BEYOND);
            DUE.is("conveys(2, -1, 0)", x.conveys(2, -1, 0), Due.BEYOND);
            DUE.is("holds(2, 1296)", x.holds(2, 1296), Due.BEYOND);
            DUE.is("holds(2, -1)", x.holds(2, -1), Due.BEYOND);
            x.fall(4);
        }
    }

    /** No such DEAL: with none, with one, with all but one gone. */
    private static void askedOfNone() {
        RolledPicks x = new RolledPicks();
        for (int round = 0; round < 2; round++) {
            for (int what = 0; what < 8; what++) {
                DUE.is("of(0, " + what + ")", x.of(0, what), Due.BEYOND);
            }
            DUE.is("holds(0, 0)", x.holds(0, 0), Due.BEYOND);
            DUE.is("conveys(0, 0, 0)", x.conveys(0, 0, 0), Due.BEYOND);
            DUE.is("conveys(0, 0, 1)", x.conveys(0, 0, 1), Due.BEYOND);
            DUE.is("hold(0, 0)", x.hold(0, 0), Due.BEYOND);
            DUE.is("sale", x.sale(0, 1, 2, 10, 0), 0);
            DUE.is("of(0, 3)", x.of(0, 3), 10);
            DUE.is("of(1, 3)", x.of(1, 3), Due.BEYOND);
            DUE.is("holds(1, 0)", x.holds(1, 0), Due.BEYOND);
            DUE.is("conveys(1, 0, 0)", x.conveys(1, 0, 0), Due.BEYOND);
            DUE.is("hold(0, 1)", x.hold(0, 1), Due.BEYOND);
            DUE.is("of(0, 8)", x.of(0, 8), Due.BEYOND);
            DUE.is("of(0, -1)", x.of(0, -1), Due.BEYOND);
            DUE.is("drop()", x.drop(), 0);
        }
        DUE.is("status(0)", x.status(0), 2 * 18);
    }

    /** Promise 13. */
    private static void drops() {
        RolledPicks x = new RolledPicks();
        for (int round = 0; round < 2; round++) {
            DUE.is("drop() of none", x.drop(), Due.NONE);
            for (int pick = 0; pick < 12; pick++) {
                x.sale(0, pick % 3, (pick + 2) % 3, pick, 0);
            }
            for (int left = 11; left >= 0; left--) {
                DUE.is("sure(" + left + ")", x.sure(left), (left + 2) % 3);
                DUE.is("drop()", x.drop(), left);
                DUE.is("sure(" + left + "), gone", x.sure(left), left % 3);
                DUE.is("of(" + left + ", 0)", x.of(left, 0), Due.BEYOND);
            }
        }
        DUE.is("drop() of none", x.drop(), Due.NONE);
        DUE.is("status(3)", x.status(3), 3);
        RolledPicks y = new RolledPicks();
        y.sale(0, 0, 1, 0, 0);
        for (int year = 0; year < 4; year++) {
            y.fall(0);
        }
        DUE.is("sure(0)", y.sure(0), 1);
        DUE.is("drop() of a DEAL whose YEAR has FALLEN", y.drop(), 0);
        DUE.is("sure(0)", y.sure(0), 0);
    }

    /** Promise 14: none go, the first, one between, the last, all. */
    private static void prunes() {
        RolledPicks none = new RolledPicks();
        DUE.is("prune() of none", none.prune(), 0);
        for (int gone = 0; gone < 8; gone++) {
            RolledPicks x = new RolledPicks();
            int left = 0;
            for (int k = 0; k < 3; k++) {
                boolean goes = (gone >> k & 1) != 0;
                x.sale(goes ? 1 : 4, 0, 1, 3 * k + 3, 1);
                left += goes ? 0 : 1;
            }
            DUE.is("prune(), none FALLEN", x.prune(), 0);
            for (int year = 0; year < 4; year++) {
                x.fall(0);
            }
            DUE.is("prune() of " + gone, x.prune(), 3 - left);
            DUE.is("count(0)", x.count(0), left);
            DUE.is("of(left, 0)", x.of(left, 0), Due.BEYOND);
            int k = 0;
            for (int was = 0; was < 3; was++) {
                boolean stays = (gone >> was & 1) == 0;
                DUE.is("sure", x.sure(3 * was + 3), stays ? 1 : 0);
                if (stays) {
                    DUE.is("of(" + k + ", 3)", x.of(k, 3), 3 * was + 3);
                    k++;
                }
            }
            DUE.is("prune() again", x.prune(), 0);
            DUE.is("status(-1)", x.status(-1), 1);
        }
        RolledPicks y = new RolledPicks();
        Due.text(y, Texts.deal(0, 1, 9, LAST));
        Due.text(y, "from 0 to 1 pick 0 if at 1 0 0 and at 1 0 1");
        DUE.is("prune() of what LAPSES everywhere, none FALLEN", y.prune(), 1);
        DUE.is("of(0, 7), in one STANDING alone", y.of(0, 7), 1);
        y.fall(5);
        y.fall(5);
        y.fall(5);
        DUE.is("prune()", y.prune(), 0);
        y.fall(4);
        DUE.is("prune()", y.prune(), 1);
        DUE.is("count(0)", y.count(0), 0);
        DUE.is("drop()", y.drop(), Due.NONE);
    }
}
