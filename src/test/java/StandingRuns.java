/** Promises 1 to 6: a new object, orders, standings, years that fall, draws. */
public final class StandingRuns {
    private static final Due DUE = new Due();

    public static void main(String[] args) {
        aNewObject();
        orders();
        places();
        falls();
        draws();
        DUE.end();
    }

    private static void aNewObject() {
        RolledPicks x = new RolledPicks();
        int[] counts = {0, 0, 1296, 0, 1, 0, 0};
        for (int what = 0; what < counts.length; what++) {
            DUE.is("count(" + what + ")", x.count(what), counts[what]);
        }
        for (int what = 0; what < 3; what++) {
            DUE.is("clash(" + what + ")", x.clash(what), -1);
        }
        DUE.is("status(-1)", x.status(-1), 0);
        for (int which = 0; which < 8; which++) {
            DUE.is("status(" + which + ")", x.status(which), 0);
        }
        for (int pick = 0; pick < 12; pick++) {
            DUE.is("sure(" + pick + ")", x.sure(pick), pick % 3);
            DUE.is("owner(1295, " + pick + ")", x.owner(1295, pick), pick % 3);
        }
        for (int s = 0; s < 4; s++) {
            DUE.is("item(" + s + ", 0)", x.item(s, 0), Due.LONG_MISSING);
            DUE.is("taken(" + s + ", 0)", x.taken(s, 0), Due.MISSING);
        }
        DUE.is("fallen(0)", x.fallen(0), Due.NONE);
        DUE.is("price(0, 0)", x.price(0, 0), 8);
        DUE.is("price(1, 0)", x.price(1, 0), 4);
        DUE.is("price(2, 0)", x.price(2, 0), 2);
    }

    private static void orders() {
        int[][] rows = {{0, 1, 2}, {0, 2, 1}, {1, 0, 2}, {1, 2, 0}, {2, 0, 1}, {2, 1, 0}};
        RolledPicks x = new RolledPicks();
        for (int o = 0; o < 6; o++) {
            for (int place = 0; place < 3; place++) {
                DUE.is("order(" + o + ", " + place + ")", x.order(o, place), rows[o][place]);
            }
        }
    }

    private static void places() {
        RolledPicks x = new RolledPicks();
        for (int pick = 0; pick < 12; pick++) {
            DUE.is("place(0, " + pick + ")", x.place(0, pick), pick % 3);
            DUE.is("place(1295, " + pick + ")", x.place(1295, pick), 2 - pick % 3);
        }
        // ORDERS 3 (1 2 0), 4 (2 0 1), 1 (0 2 1), 2 (1 0 2)
        int standing = 3 * 216 + 4 * 36 + 6 + 2;
        int[] due = {2, 0, 1, 1, 2, 0, 0, 2, 1, 1, 0, 2};
        for (int pick = 0; pick < 12; pick++) {
            DUE.is("place(" + standing + ", " + pick + ")", x.place(standing, pick), due[pick]);
        }
        x.fall(0);
        DUE.is("place of a STANDING that isn't OPEN", x.place(1295, 0), 2);
    }

    private static void falls() {
        RolledPicks x = new RolledPicks();
        int[] orders = {5, 0, 3, 1};
        int[] open = {1296, 216, 36, 6, 1};
        int[] first = {0, 1080, 1080, 1098, 1099};
        for (int year = 0; year < 4; year++) {
            DUE.is("count(2)", x.count(2), open[year]);
            DUE.is("least", x.least(0, 0), first[year]);
            DUE.is("fallen(" + year + ")", x.fallen(year), Due.NONE);
            DUE.is("fall", x.fall(orders[year]), year + 1);
            DUE.is("count(1)", x.count(1), year + 1);
            for (int y = 0; y <= year; y++) {
                DUE.is("fallen(" + y + ")", x.fallen(y), orders[y]);
            }
        }
        DUE.is("fall(0)", x.fall(0), Due.NONE);
        DUE.is("fall(-1)", x.fall(-1), Due.BEYOND);
        DUE.is("count(1)", x.count(1), 4);
        DUE.is("count(2)", x.count(2), 1);
        DUE.is("owner(1099, 3)", x.owner(1099, 3), 0);
        DUE.is("owner(1098, 3)", x.owner(1098, 3), Due.BEYOND);
        DUE.is("owner(1100, 3)", x.owner(1100, 3), Due.BEYOND);
        DUE.is("draw()", x.draw(), 1099);
    }

    private static void draws() {
        RolledPicks x = new RolledPicks();
        int z = 1;
        for (int i = 0; i < 20; i++) {
            z = z * 1103515245 + 12345;
            DUE.is("draw()", x.draw(), (z >>> 8) % 1296);
            DUE.is("count(4)", x.count(4), z);
        }
        x.fall(4);
        x.fall(1);
        for (int i = 0; i < 20; i++) {
            z = z * 1103515245 + 12345;
            DUE.is("draw()", x.draw(), 4 * 216 + 36 + (z >>> 8) % 36);
        }
        x.seed(-5);
        z = -5 * 1103515245 + 12345;
        DUE.is("draw()", x.draw(), 4 * 216 + 36 + (z >>> 8) % 36);
        DUE.is("seed(0)", x.seed(0), z);
        DUE.is("draw() from 0", x.draw(), 4 * 216 + 36 + (12345 >>> 8) % 36);
    }
}
