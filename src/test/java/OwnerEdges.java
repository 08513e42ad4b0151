/** Promises 16 to 30 at their edges: in no, one, all OPEN STANDINGS; ties; SHEETS of none to 40 numbers. */
public final class OwnerEdges {
    private static final int MIN = Integer.MIN_VALUE;
    private static final int MAX = Integer.MAX_VALUE;
    private static final int LAST = 1295;
    private static final Due DUE = new Due();

    public static void main(String[] args) {
        chainsOfEachLength();
        handsOfNoneAndAll();
        ownersOfEachSet();
        inOneStandingAlone();
        whenAllHaveFallen();
        prices();
        worthOfNoneAndMost();
        bests();
        hopes();
        roundsOfNone();
        roundsOfWrongSheets();
        roundsOfSheetsOfEachSort();
        roundsOfTwelve();
        laysOfEachLength();
        judgesOfEachLength();
        judgesOfWrongNumbers();
        DUE.end();
    }

    /** Promises 16 and 17: a CHAIN has one CLUB to three. */
    private static void chainsOfEachLength() {
        RolledPicks x = new RolledPicks();
        int[] clubs = {2, 0, 1};
        for (int length = 1; length <= 3; length++) {
            for (int standing : new int[] {0, LAST}) {
                DUE.is("owner", x.owner(standing, 11), clubs[length - 1]);
                DUE.is("chain(i -1)", x.chain(standing, 11, -1), length);
                for (int i = 0; i < 3; i++) {
                    DUE.is("chain(i " + i + ") of " + length, x.chain(standing, 11, i), i < length ? clubs[i] : Due.NONE);
                }
                for (int i : new int[] {3, 4, MAX - 1, MAX, -2, -3, MIN, MIN + 1}) {
                    DUE.is("chain(i " + i + ") of " + length, x.chain(standing, 11, i), Due.NONE);
                }
            }
            for (int i : new int[] {MIN, -2, -1, 0, 3, MAX}) {
                DUE.is("chain of no STANDING, i " + i, x.chain(-1, 11, i), Due.BEYOND);
                DUE.is("chain of no STANDING, i " + i, x.chain(1296, 11, i), Due.BEYOND);
                DUE.is("chain of no PICK, i " + i, x.chain(0, 12, i), Due.BEYOND);
                DUE.is("chain of no PICK, i " + i, x.chain(0, -1, i), Due.BEYOND);
            }
            if (length < 3) {
                x.sale(0, clubs[length - 1], clubs[length], 11, 0);
            }
        }
        RolledPicks y = new RolledPicks();
        for (int pick = 0; pick < 12; pick++) {
            DUE.is("chain of one, PICK " + pick, y.chain(0, pick, 0), pick % 3);
            DUE.is("chain of one, PICK " + pick, y.chain(LAST, pick, -1), 1);
            DUE.is("chain of one, PICK " + pick, y.chain(LAST, pick, 1), Due.NONE);
        }
    }

    /** All twelve PICKS to CLUB 1, where worth is greatest. */
    private static RolledPicks allToOne() {
        RolledPicks x = new RolledPicks();
        for (int pick = 0; pick < 12; pick++) {
            if (pick % 3 != 1) {
                x.sale(0, pick % 3, 1, pick, 0);
            }
        }
        return x;
    }

    /** Promise 18. */
    private static void handsOfNoneAndAll() {
        RolledPicks x = allToOne();
        for (int standing : new int[] {0, LAST}) {
            DUE.is("hand of none", x.hand(standing, 0), 0);
            DUE.is("hand of all", x.hand(standing, 1), 4095);
            DUE.is("hand of none", x.hand(standing, 2), 0);
        }
        RolledPicks y = new RolledPicks();
        DUE.is("hand of PICK 0 and its like", y.hand(0, 0), 0x249);
        DUE.is("hand of PICK 11 and its like", y.hand(0, 2), 0x924);
        y.sale(0, 2, 0, 11, 0);
        DUE.is("hand with PICK 11", y.hand(0, 0), 0x249 | 0x800);
        DUE.is("hand without PICK 11", y.hand(0, 2), 0x124);
    }

    /** Promises 19 to 22: one OWNER, two, three; a like third of STANDINGS each. */
    private static void ownersOfEachSet() {
        RolledPicks x = new RolledPicks();
        DUE.is("owners of one", x.owners(3), 1);
        DUE.is("sure", x.sure(3), 0);
        x.sale(1, 0, 1, 3, 1);
        DUE.is("owners of two", x.owners(3), 3);
        DUE.is("sure of two", x.sure(3), Due.NONE);
        x.sale(1, 1, 2, 3, 2);
        DUE.is("owners of three", x.owners(3), 7);
        DUE.is("sure of three", x.sure(3), Due.NONE);
        int[] least = {0, 72, 108};
        for (int club = 0; club < 3; club++) {
            DUE.is("chance(3, " + club + ")", x.chance(3, club), 432);
            DUE.is("least(3, " + club + ")", x.least(3, club), least[club]);
        }
        DUE.is("status(3)", x.status(3), 2);
        x.fall(5);
        DUE.is("owners of three still", x.owners(3), 7);
        x.fall(3);
        DUE.is("owners of one now", x.owners(3), 4);
        DUE.is("sure", x.sure(3), 2);
        DUE.is("chance of all", x.chance(3, 2), 36);
        DUE.is("chance of none", x.chance(3, 0), 0);
        DUE.is("least", x.least(3, 2), 1188);
        DUE.is("least of none", x.least(3, 0), Due.NONE);
    }

    /** One STANDING alone, the first or the last, tells from all others. */
    private static void inOneStandingAlone() {
        for (int standing : new int[] {0, LAST}) {
            RolledPicks x = new RolledPicks();
            Due.text(x, Texts.deal(0, 1, 9, standing));
            DUE.is("owners(9)", x.owners(9), 3);
            DUE.is("sure(9)", x.sure(9), Due.NONE);
            DUE.is("chance(9, 0)", x.chance(9, 0), 1295);
            DUE.is("chance(9, 1)", x.chance(9, 1), 1);
            DUE.is("chance(9, 2)", x.chance(9, 2), 0);
            DUE.is("least(9, 0)", x.least(9, 0), standing == 0 ? 1 : 0);
            DUE.is("least(9, 1)", x.least(9, 1), standing);
            DUE.is("least(9, 2)", x.least(9, 2), Due.NONE);
            DUE.is("hand", x.hand(standing, 1), 0x492 | 1 << 9);
            DUE.is("hand", x.hand(LAST - standing, 1), 0x492);
            for (int year = 0; year < 3; year++) {
                x.fall(standing % 6);
                DUE.is("sure(9)", x.sure(9), Due.NONE);
            }
            DUE.is("least(9, 1)", x.least(9, 1), standing);
            x.image();
            x.fall(standing % 6);
            DUE.is("sure(9), as it is there", x.sure(9), 1);
            x.back();
            x.fall(2);
            DUE.is("sure(9), as it is elsewhere", x.sure(9), 0);
            DUE.is("chance(9, 1)", x.chance(9, 1), 0);
            DUE.is("least(9, 1)", x.least(9, 1), Due.NONE);
        }
    }

    private static void whenAllHaveFallen() {
        RolledPicks x = new RolledPicks();
        x.sale(1, 0, 1, 9, 1);
        for (int year = 0; year < 4; year++) {
            x.fall(4);
        }
        int only = 4 * 259;
        DUE.is("owner", x.owner(only, 9), 1);
        DUE.is("owner", x.owner(only - 1, 9), Due.BEYOND);
        DUE.is("owner", x.owner(only + 1, 9), Due.BEYOND);
        DUE.is("owners", x.owners(9), 2);
        DUE.is("sure", x.sure(9), 1);
        DUE.is("chance", x.chance(9, 1), 1);
        DUE.is("chance", x.chance(9, 0), 0);
        DUE.is("least", x.least(9, 1), only);
        DUE.is("least", x.least(9, 0), Due.NONE);
        DUE.is("worth", x.worth(only, 1), 2 * 4 + 4);
        DUE.is("value", x.value(1), 12);
        DUE.is("best, greatest", x.best(1, 0), only);
        DUE.is("best, least", x.best(1, 1), only);
        DUE.is("hope", x.hope(1), Due.NONE);
        DUE.is("hope of no CLUB", x.hope(3), Due.BEYOND);
        DUE.is("worth elsewhere", x.worth(0, 1), Due.BEYOND);
    }

    /** Promise 23. */
    private static void prices() {
        RolledPicks x = new RolledPicks();
        int[] first = {8, 4, 2};
        for (int place = 0; place < 3; place++) {
            DUE.is("price, at first", x.price(place, 999), first[place]);
            DUE.is("price, the greatest", x.price(place, 0), 999);
            DUE.is("price, the least", x.price(place, 0), 0);
            DUE.is("price below", x.price(place, -1), Due.BEYOND);
            DUE.is("price above", x.price(place, 1000), Due.BEYOND);
            DUE.is("price, still the least", x.price(place, first[place]), 0);
        }
        DUE.is("no such place", x.price(-1, 5), Due.BEYOND);
        DUE.is("no such place", x.price(3, 5), Due.BEYOND);
        DUE.is("value(0)", x.value(0), 24192);
        DUE.is("status(0)", x.status(0), 8);
    }

    /** Promises 24 and 25: of no PICK, of no WORTH, of all at the greatest. */
    private static void worthOfNoneAndMost() {
        RolledPicks x = allToOne();
        DUE.is("worth of no PICK", x.worth(0, 0), 0);
        DUE.is("value of no PICK", x.value(2), 0);
        DUE.is("worth of all", x.worth(LAST, 1), 4 * 14);
        DUE.is("value of all", x.value(1), 1296 * 4 * 14);
        for (int place = 0; place < 3; place++) {
            x.price(place, 999);
        }
        DUE.is("the greatest worth", x.worth(0, 1), 11988);
        DUE.is("the greatest worth", x.worth(LAST, 1), 11988);
        DUE.is("the greatest value", x.value(1), 15536448);
        DUE.is("worth of no PICK", x.worth(0, 2), 0);
        DUE.is("value of no PICK", x.value(0), 0);
        for (int place = 0; place < 3; place++) {
            x.price(place, 0);
        }
        DUE.is("worth of nothing", x.worth(LAST, 1), 0);
        DUE.is("value of nothing", x.value(1), 0);
        DUE.is("value of no CLUB", x.value(3), Due.LONG_BEYOND);
        DUE.is("value of no CLUB", x.value(-1), Due.LONG_BEYOND);
        DUE.is("worth of no CLUB", x.worth(0, 3), Due.BEYOND);
        DUE.is("worth of no STANDING", x.worth(1296, 1), Due.BEYOND);
        DUE.is("status(0)", x.status(0), 4);
    }

    private static void priceAll(RolledPicks x, int v) {
        for (int place = 0; place < 3; place++) {
            x.price(place, v);
        }
    }

    /** Promise 26: one STANDING tells from all others; all are alike. */
    private static void bests() {
        for (int standing : new int[] {0, 1, 1294, LAST}) {
            RolledPicks x = new RolledPicks();
            Due.text(x, Texts.deal(0, 1, 9, standing));
            priceAll(x, 1);
            int other = standing == 0 ? 1 : 0;
            DUE.is("greatest of who gets", x.best(1, 0), standing);
            DUE.is("least of who gets", x.best(1, 1), other);
            DUE.is("greatest of who gives", x.best(0, 0), other);
            DUE.is("least of who gives", x.best(0, 1), standing);
            DUE.is("all alike", x.best(2, 0), 0);
            DUE.is("all alike", x.best(2, 1), 0);
            priceAll(x, 0);
            DUE.is("all of no WORTH", x.best(1, 0), 0);
            DUE.is("all of no WORTH", x.best(1, 1), 0);
            priceAll(x, 999);
            DUE.is("at the greatest WORTH", x.best(1, 0), standing);
            x.fall(4);
            DUE.is("all alike, of those that are OPEN", x.best(2, 0), 864);
            DUE.is("all alike, of those that are OPEN", x.best(2, 1), 864);
        }
        RolledPicks y = allToOne();
        DUE.is("of all PICKS", y.best(1, 0), 0);
        DUE.is("of no PICK", y.best(0, 1), 0);
        y.fall(5);
        DUE.is("of no PICK", y.best(2, 0), 1080);
        DUE.is("no such CLUB", y.best(3, 0), Due.BEYOND);
        DUE.is("no such what", y.best(0, 2), Due.BEYOND);
        DUE.is("no such what", y.best(0, -1), Due.BEYOND);
    }

    /** Promise 27: the last ORDER alone, ties, the last YEAR. */
    private static void hopes() {
        for (int order = 0; order < 6; order++) {
            RolledPicks x = new RolledPicks();
            Due.text(x, Texts.deal(0, 1, 9, order * 259));
            priceAll(x, 1);
            for (int year = 0; year < 4; year++) {
                DUE.is("of who gets, YEAR " + year, x.hope(1), order);
                DUE.is("of who gives, YEAR " + year, x.hope(0), order == 0 ? 1 : 0);
                DUE.is("all alike, YEAR " + year, x.hope(2), 0);
                DUE.is("count(1)", x.count(1), year);
                x.fall(order);
            }
            DUE.is("all have FALLEN", x.hope(1), Due.NONE);
            DUE.is("all have FALLEN", x.hope(2), Due.NONE);
            DUE.is("no such CLUB", x.hope(-1), Due.BEYOND);
            DUE.is("status(-1)", x.status(-1), 3);
        }
        RolledPicks y = new RolledPicks();
        priceAll(y, 0);
        DUE.is("of no WORTH", y.hope(1), 0);
        priceAll(y, 999);
        DUE.is("of like WORTH", y.hope(2), 0);
        y.price(2, 998);
        // CLUB 2 is last under ORDERS 0 and 2: the first at which it isn't is 1
        DUE.is("the least of several", y.hope(2), 1);
    }

    private static void tell(RolledPicks x, int s, int sort, long... numbers) {
        x.sheet(s, sort, numbers.length);
        for (int i = 0; i < numbers.length; i++) {
            x.write(s, i, numbers[i]);
        }
    }

    /** Promise 28: no DEAL, none that CONVEYS, and the last time counts, too. */
    private static void roundsOfNone() {
        RolledPicks x = new RolledPicks();
        DUE.is("MISSING", x.rounds(0, 0), Due.MISSING);
        for (int sort = 0; sort < 3; sort++) {
            x.sheet(0, sort, 0);
            DUE.is("no DEAL", x.rounds(0, 0), 1);
            DUE.is("no DEAL", x.rounds(0, LAST), 1);
            x.sheet(0, sort, 1);
            DUE.is("one number too many", x.rounds(0, 0), Due.SIZE);
            x.sheet(0, sort, 40);
            DUE.is("forty numbers too many", x.rounds(0, 0), Due.SIZE);
        }
        Due.text(x, "from 0 to 1 pick 0 if at 0 0 0 and at 0 0 1");
        x.sheet(0, 0, 1);
        DUE.is("one DEAL that LAPSES", x.rounds(0, 0), 1);
        x.sheet(0, 0, 0);
        DUE.is("one number too few", x.rounds(0, 0), Due.SIZE);
        x.sale(0, 2, 0, 11, 0);
        tell(x, 0, 0, 0, 1);
        DUE.is("one DEAL that doesn't", x.rounds(0, 0), 2);
        x.sheet(0, -1, 0);
        DUE.is("MISSING again", x.rounds(0, 0), Due.MISSING);
        DUE.is("status(6)", x.status(6), 7);
    }

    private static void roundsOfWrongSheets() {
        RolledPicks x = new RolledPicks();
        x.sale(0, 0, 1, 0, 0);
        x.sale(0, 1, 2, 0, 0);
        long[][] wrong = {{0, 0}, {1, 1}, {0, 2}, {2, 1}, {-1, 0}, {1, -1}, {0, 12}, {0, 32}, {0, 33}, {64, 1}, {1, 1L << 32},
            {(1L << 32) + 1, 0}, {Long.MIN_VALUE, 0}, {0, Long.MAX_VALUE}};
        for (long[] row : wrong) {
            tell(x, 2, 2, row);
            DUE.is("numbers " + row[0] + ", " + row[1], x.rounds(2, 0), Due.STATE);
        }
        DUE.is("status(4)", x.status(4), wrong.length);
        tell(x, 2, 2, 0, 1, 1);
        DUE.is("too many, and one twice", x.rounds(2, 0), Due.SIZE);
        tell(x, 2, 2, 9);
        DUE.is("too few, and none such", x.rounds(2, 0), Due.SIZE);
        DUE.is("no such STANDING, and too few", x.rounds(2, 1296), Due.BEYOND);
        DUE.is("no such STANDING, and MISSING", x.rounds(3, -1), Due.BEYOND);
        DUE.is("no such SHEET", x.rounds(4, 0), Due.BEYOND);
        DUE.is("MISSING", x.rounds(3, 0), Due.MISSING);
    }

    /** Numbers that came to a SHEET by their lowest bits are told as they came there. */
    private static void roundsOfSheetsOfEachSort() {
        RolledPicks x = new RolledPicks();
        x.sale(0, 0, 1, 0, 0);
        x.sale(0, 1, 2, 0, 0);
        tell(x, 0, 0, 65537, 1L << 40);
        DUE.is("shorts", x.rounds(0, 0), 3);
        tell(x, 1, 1, 1L << 32, -(1L << 32) + 1);
        DUE.is("ints", x.rounds(1, 0), 2);
        tell(x, 1, 1, 65536, 1);
        DUE.is("ints that aren't", x.rounds(1, 0), Due.STATE);
        tell(x, 2, 2, 1, 0);
        DUE.is("longs", x.rounds(2, 0), 3);
    }

    private static void roundsOfTwelve() {
        RolledPicks x = new RolledPicks();
        for (int pick = 0; pick < 6; pick++) {
            x.sale(0, pick % 3, (pick + 1) % 3, pick + 6, 0);
        }
        for (int pick = 0; pick < 6; pick++) {
            x.sale(0, (pick + 1) % 3, (pick + 2) % 3, pick + 6, 0);
        }
        tell(x, 0, 0, 0, 1, 2, 3, 4, 5, 6, 7, 8, 9, 10, 11);
        DUE.is("forward", x.rounds(0, LAST), 2);
        tell(x, 0, 0, 6, 7, 8, 9, 10, 11, 0, 1, 2, 3, 4, 5);
        DUE.is("those behind first", x.rounds(0, 0), 3);
        tell(x, 0, 0, 0, 1, 2, 3, 4, 11, 6, 7, 8, 9, 10, 5);
        DUE.is("one alone behind", x.rounds(0, 0), 3);
        tell(x, 0, 0, 0, 1, 2, 3, 4, 5, 6, 7, 8, 9, 10, 12);
        DUE.is("the last is no DEAL", x.rounds(0, 0), Due.STATE);
        tell(x, 0, 0, 0, 1, 2, 3, 4, 5, 6, 7, 8, 9, 10);
        DUE.is("one lacks", x.rounds(0, 0), Due.SIZE);
        tell(x, 0, 0, 0, 1, 2, 3, 4, 5, 6, 7, 8, 9, 10, 11, 11);
        DUE.is("one too many", x.rounds(0, 0), Due.SIZE);
        DUE.is("sure(6)", x.sure(6), 2);
    }

    /** Promise 29: as many as it has numbers for, and what is behind them stays. */
    private static void laysOfEachLength() {
        RolledPicks x = new RolledPicks();
        x.sale(0, 2, 1, 11, 0);
        int[] owners = {0, 1, 2, 0, 1, 2, 0, 1, 2, 0, 1, 1};
        DUE.is("MISSING", x.lays(0, 0), Due.MISSING);
        for (int sort = 0; sort < 3; sort++) {
            for (int n : new int[] {0, 1, 2, 11, 12, 13, 40}) {
                x.sheet(0, sort, n);
                if (n > 12) {
                    x.write(0, 12, -7);
                    x.write(0, n - 1, -8);
                }
                DUE.is("lays of " + n, x.lays(0, LAST), Math.min(n, 12));
                for (int i = 0; i < Math.min(n, 12); i++) {
                    DUE.is("item(0, " + i + ") of " + n, x.item(0, i), owners[i]);
                }
                DUE.is("item(0, n)", x.item(0, n), Due.LONG_BEYOND);
                if (n > 12) {
                    DUE.is("the last stays", x.item(0, n - 1), -8);
                    DUE.is("item(0, 12)", x.item(0, 12), n == 13 ? -8 : -7);
                }
            }
        }
        DUE.is("no such SHEET", x.lays(4, 0), Due.BEYOND);
        DUE.is("no such STANDING", x.lays(0, 1296), Due.BEYOND);
        x.fall(0);
        DUE.is("the last OPEN STANDING", x.lays(0, 215), 12);
        DUE.is("none that is OPEN", x.lays(0, 216), Due.BEYOND);
        DUE.is("MISSING, and none that is OPEN", x.lays(1, 216), Due.BEYOND);
    }

    /** Promise 30: the first that lacks, or is too many. */
    private static void judgesOfEachLength() {
        RolledPicks x = new RolledPicks();
        x.sale(0, 2, 1, 11, 0);
        DUE.is("MISSING", x.judge(0, 0), Due.MISSING);
        for (int sort = 0; sort < 3; sort++) {
            for (int n = 0; n <= 40; n++) {
                x.sheet(0, sort, n);
                x.lays(0, 0);
                int due = n < 12 ? 1 + n : n == 12 ? 0 : 13;
                if (n % 7 == 5 || n == 0 || n == 11 || n == 13) {
                    DUE.is("judge of " + n, x.judge(0, LAST), due);
                }
            }
        }
        DUE.is("no such SHEET", x.judge(-1, 0), Due.BEYOND);
        DUE.is("no such STANDING", x.judge(0, -1), Due.BEYOND);
    }

    private static void judgesOfWrongNumbers() {
        RolledPicks x = new RolledPicks();
        x.sale(0, 2, 1, 11, 0);
        for (int i = 0; i < 12; i++) {
            for (long wrong : new long[] {-1, 3, 1L << 32, Long.MIN_VALUE}) {
                x.sheet(0, 2, 12);
                x.lays(0, 0);
                x.write(0, i, x.item(0, i) + wrong);
                DUE.is("wrong by " + wrong + " at " + i, x.judge(0, 0), 1 + i);
            }
        }
        RolledPicks y = new RolledPicks();
        y.sheet(0, 0, 12);
        y.lays(0, 0);
        y.write(0, 3, 65536);
        DUE.is("a short by its lowest bits", y.judge(0, 0), 0);
        y.write(0, 11, 0);
        y.write(0, 4, 0);
        DUE.is("of two the first", y.judge(0, 0), 5);
    }
}
