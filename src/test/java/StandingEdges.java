/** Promises 1 to 6 at their edges: the first and the last of all, nothing there yet, all FALLEN. */
public final class StandingEdges {
    private static final int MIN = Integer.MIN_VALUE;
    private static final int MAX = Integer.MAX_VALUE;
    private static final Due DUE = new Due();

    public static void main(String[] args) {
        nothingThereYet();
        objectsApart();
        firstAndLastOrders();
        standingsWhereAYearGoesOn();
        placesOfAnyStanding();
        fallsToTheLast();
        fallsOfOneOrder();
        refusedFalls();
        fallenYearByYear();
        fallsTakenBack();
        openEnds();
        drawsThatWrap();
        drawsOfOneStanding();
        DUE.end();
    }

    /** Promise 1. */
    private static void nothingThereYet() {
        RolledPicks x = new RolledPicks();
        DUE.is("count(0)", x.count(0), 0);
        DUE.is("count(1)", x.count(1), 0);
        DUE.is("count(2)", x.count(2), 1296);
        DUE.is("prune()", x.prune(), 0);
        DUE.is("wipe()", x.wipe(), 0);
        DUE.is("text()", x.text(), -1);
        for (int what = 0; what < 3; what++) {
            DUE.is("clash(" + what + ")", x.clash(what), -1);
        }
        DUE.is("status(-1)", x.status(-1), 0);
        DUE.is("drop()", x.drop(), Due.NONE);
        DUE.is("back()", x.back(), Due.NONE);
        DUE.is("of(0, 0)", x.of(0, 0), Due.BEYOND);
        DUE.is("holds(0, 0)", x.holds(0, 0), Due.BEYOND);
        DUE.is("conveys(0, 0, 0)", x.conveys(0, 0, 0), Due.BEYOND);
        DUE.is("hold(0, 0)", x.hold(0, 0), Due.BEYOND);
        for (int year = 0; year < 4; year++) {
            DUE.is("fallen(" + year + ")", x.fallen(year), Due.NONE);
            DUE.is("taken(" + year + ", 0)", x.taken(year, 0), Due.MISSING);
            DUE.is("item(" + year + ", 0)", x.item(year, 0), Due.LONG_MISSING);
        }
        DUE.is("chain(1295, 11, -1)", x.chain(1295, 11, -1), 1);
    }

    /** What comes to one object comes to no other. */
    private static void objectsApart() {
        RolledPicks x = new RolledPicks();
        RolledPicks y = new RolledPicks();
        x.sale(0, 0, 1, 0, 0);
        x.sale(0, 0, 1, 0, 0);
        x.hold(0, 0);
        x.image();
        x.price(0, 9);
        x.seed(5);
        x.feed(0, 4);
        x.sheet(0, 0, 1);
        x.fall(5);
        int[] due = {0, 0, 1296, 0, 1, 0, 0};
        for (int what = 0; what < due.length; what++) {
            DUE.is("count(" + what + ") of another", y.count(what), due[what]);
        }
        DUE.is("clash(0) of another", y.clash(0), -1);
        DUE.is("sure(0) of another", y.sure(0), 0);
        DUE.is("price(0, 8) of another", y.price(0, 8), 8);
        DUE.is("status(-1) of another", y.status(-1), 0);
        DUE.is("item(0, 0) of another", y.item(0, 0), Due.LONG_MISSING);
        DUE.is("fallen(0) of another", y.fallen(0), Due.NONE);
        DUE.is("count(0) of one made then", new RolledPicks().count(0), 0);
    }

    /** Promise 2. */
    private static void firstAndLastOrders() {
        RolledPicks x = new RolledPicks();
        DUE.is("order(0, 0)", x.order(0, 0), 0);
        DUE.is("order(0, 2)", x.order(0, 2), 2);
        DUE.is("order(5, 0)", x.order(5, 0), 2);
        DUE.is("order(5, 2)", x.order(5, 2), 0);
        DUE.is("order(6, 0)", x.order(6, 0), Due.BEYOND);
        DUE.is("order(5, 3)", x.order(5, 3), Due.BEYOND);
        DUE.is("order(-1, 2)", x.order(-1, 2), Due.BEYOND);
        DUE.is("order(0, -1)", x.order(0, -1), Due.BEYOND);
        DUE.is("status(0)", x.status(0), 4);
    }

    /** Promise 3: where the last ORDER of a YEAR goes on to the first, and the YEAR ahead to its next. */
    private static void standingsWhereAYearGoesOn() {
        RolledPicks x = new RolledPicks();
        int[][] due = {
            {215, 0, 0}, {215, 3, 2}, {215, 6, 2}, {215, 9, 2}, {216, 1, 2}, {216, 3, 0}, {216, 6, 0}, {216, 9, 0},
            {35, 3, 0}, {35, 6, 2}, {35, 9, 2}, {36, 4, 2}, {36, 6, 0}, {36, 9, 0},
            {5, 6, 0}, {5, 9, 2}, {6, 7, 2}, {6, 9, 0}, {1, 10, 2}, {0, 11, 2}, {1295, 11, 0}, {1294, 11, 0}, {1294, 9, 1},
            {1079, 0, 1}, {1080, 0, 2},
        };
        for (int[] d : due) {
            DUE.is("place(" + d[0] + ", " + d[1] + ")", x.place(d[0], d[1]), d[2]);
        }
        DUE.is("place(1296, 0)", x.place(1296, 0), Due.BEYOND);
        DUE.is("place(-1, 0)", x.place(-1, 0), Due.BEYOND);
        DUE.is("place(1295, 12)", x.place(1295, 12), Due.BEYOND);
        DUE.is("place(0, -1)", x.place(0, -1), Due.BEYOND);
    }

    /** place() takes STANDINGS that aren't OPEN, too. */
    private static void placesOfAnyStanding() {
        RolledPicks x = new RolledPicks();
        for (int year = 0; year < 4; year++) {
            x.fall(2);
        }
        DUE.is("place(0, 0)", x.place(0, 0), 0);
        DUE.is("place(1295, 0)", x.place(1295, 0), 2);
        DUE.is("place(518, 9)", x.place(518, 9), 1);
        DUE.is("status(-1)", x.status(-1), 0);
    }

    /** Promise 4. */
    private static void fallsToTheLast() {
        for (int order = 0; order < 6; order++) {
            RolledPicks x = new RolledPicks();
            for (int year = 0; year < 4; year++) {
                DUE.is("fall(" + order + ")", x.fall(order), year + 1);
            }
            for (int one = 0; one < 6; one++) {
                DUE.is("fall(" + one + "), all have theirs", x.fall(one), Due.NONE);
            }
            DUE.is("fallen(3)", x.fallen(3), order);
            DUE.is("count(1)", x.count(1), 4);
            DUE.is("status(3)", x.status(3), 6);
            DUE.is("status(-1)", x.status(-1), 6);
        }
    }

    private static void fallsOfOneOrder() {
        RolledPicks x = new RolledPicks();
        for (int year = 0; year < 4; year++) {
            x.fall(5);
        }
        DUE.is("owner(1295, 0)", x.owner(1295, 0), 0);
        DUE.is("owner(1294, 0)", x.owner(1294, 0), Due.BEYOND);
        DUE.is("owner(1296, 0)", x.owner(1296, 0), Due.BEYOND);
        RolledPicks y = new RolledPicks();
        for (int year = 0; year < 4; year++) {
            y.fall(0);
        }
        DUE.is("owner(0, 0)", y.owner(0, 0), 0);
        DUE.is("owner(1, 0)", y.owner(1, 0), Due.BEYOND);
        DUE.is("owner(-1, 0)", y.owner(-1, 0), Due.BEYOND);
    }

    private static void refusedFalls() {
        for (int falls = 0; falls <= 4; falls++) {
            RolledPicks x = new RolledPicks();
            for (int year = 0; year < falls; year++) {
                x.fall(year + 1);
            }
            for (int order : new int[] {-1, 6, MIN, MAX}) {
                DUE.is("fall(" + order + ") with " + falls + " FALLEN", x.fall(order), Due.BEYOND);
            }
            DUE.is("count(1)", x.count(1), falls);
            DUE.is("status(0)", x.status(0), 4);
            DUE.is("status(3)", x.status(3), 0);
            DUE.is("draw()", x.draw(), new int[] {158, 374, 302, 308, 310}[falls]);
        }
    }

    /** Promise 5. */
    private static void fallenYearByYear() {
        RolledPicks x = new RolledPicks();
        int[] orders = {5, 0, 4, 1};
        for (int falls = 0; falls <= 4; falls++) {
            for (int year = 0; year < 4; year++) {
                DUE.is("fallen(" + year + ") with " + falls, x.fallen(year), year < falls ? orders[year] : Due.NONE);
            }
            DUE.is("fallen(4)", x.fallen(4), Due.BEYOND);
            DUE.is("fallen(-1)", x.fallen(-1), Due.BEYOND);
            if (falls < 4) {
                x.fall(orders[falls]);
            }
        }
        DUE.is("status(3)", x.status(3), 4 + 3 + 2 + 1);
        DUE.is("status(0)", x.status(0), 10);
    }

    private static void fallsTakenBack() {
        RolledPicks x = new RolledPicks();
        x.image();
        for (int year = 0; year < 4; year++) {
            x.fall(5);
        }
        DUE.is("back()", x.back(), 0);
        for (int year = 0; year < 4; year++) {
            DUE.is("fallen(" + year + ")", x.fallen(year), Due.NONE);
            DUE.is("fall(1)", x.fall(1), year + 1);
            DUE.is("fallen(" + year + ")", x.fallen(year), 1);
        }
        DUE.is("owner(259, 0)", x.owner(259, 0), 0);
    }

    /** OPEN: all STANDINGS in which FALLEN YEARS have their ORDERS, and no other one. */
    private static void openEnds() {
        int[][] orders = {{0, 0, 0, 0}, {5, 5, 5, 5}, {2, 5, 0, 3}, {4, 0, 5, 1}};
        int[] wide = {1296, 216, 36, 6, 1};
        for (int[] row : orders) {
            RolledPicks x = new RolledPicks();
            int first = 0;
            for (int falls = 0; falls <= 4; falls++) {
                int last = first + wide[falls] - 1;
                String of = " with " + falls + " FALLEN";
                DUE.is("count(2)" + of, x.count(2), wide[falls]);
                DUE.is("owner of the first" + of, x.owner(first, 11), 2);
                DUE.is("owner of the last" + of, x.owner(last, 11), 2);
                DUE.is("owner of one ahead" + of, x.owner(first - 1, 11), Due.BEYOND);
                DUE.is("owner of one behind" + of, x.owner(last + 1, 11), Due.BEYOND);
                DUE.is("least" + of, x.least(11, 2), first);
                if (falls < 4) {
                    x.fall(row[falls]);
                    first += row[falls] * wide[falls + 1];
                }
            }
        }
    }

    /** Promise 6: z wraps around as an int does, and z >>> 8 is never below 0. */
    private static void drawsThatWrap() {
        int[] seeds = {1, 0, -1, MIN, MAX};
        int[] due = {158, 48, 433, 944, 833};
        int[] then = {1103527590, 12345, -1103502900, -2147471303, 1043980748};
        for (int i = 0; i < seeds.length; i++) {
            RolledPicks x = new RolledPicks();
            DUE.is("seed(" + seeds[i] + ")", x.seed(seeds[i]), 1);
            DUE.is("draw() from " + seeds[i], x.draw(), due[i]);
            DUE.is("count(4)", x.count(4), then[i]);
            long z = then[i];
            for (int more = 0; more < 40; more++) {
                z = (z * 1103515245L + 12345L) & 0xffffffffL;
                DUE.is("draw()", x.draw(), (z >> 8) % 1296);
                DUE.is("count(4)", x.count(4), (int) z);
            }
        }
    }

    private static void drawsOfOneStanding() {
        RolledPicks x = new RolledPicks();
        for (int order = 5; order > 1; order--) {
            x.fall(order);
        }
        int z = 1;
        for (int i = 0; i < 5; i++) {
            z = z * 1103515245 + 12345;
            DUE.is("draw() of one", x.draw(), 5 * 216 + 4 * 36 + 3 * 6 + 2);
            DUE.is("count(4)", x.count(4), z);
        }
    }
}
