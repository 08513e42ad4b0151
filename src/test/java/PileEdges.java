/** Promises 39 to 43 at their edges: THE PILE empty and full, z at its ends, every count, every finding, 512 calls. */
public final class PileEdges {
    private static final int MIN = Integer.MIN_VALUE;
    private static final int MAX = Integer.MAX_VALUE;
    private static final Due DUE = new Due();

    public static void main(String[] args) {
        pileOfNone();
        pileOfSix();
        imagesOfNothingAndOfAll();
        imagesKeepWhatTheyWere();
        backLeavesAllElse();
        refusedAfterBack();
        seeds();
        zThatLooksLikeAFinding();
        countsOfNothing();
        countsOfAll();
        eachFinding();
        statusItself();
        lastCall();
        DUE.end();
    }

    /** Promise 40, NONE. */
    private static void pileOfNone() {
        RolledPicks x = new RolledPicks();
        x.sale(0, 0, 1, 0, 0);
        x.fall(5);
        x.price(0, 1);
        x.seed(3);
        DUE.is("back() of none", x.back(), Due.NONE);
        DUE.is("count(0)", x.count(0), 1);
        DUE.is("count(1)", x.count(1), 1);
        DUE.is("count(4)", x.count(4), 3);
        DUE.is("price(0, 1)", x.price(0, 1), 1);
        DUE.is("image()", x.image(), 1);
        DUE.is("back()", x.back(), 1);
        DUE.is("back() of none again", x.back(), Due.NONE);
        DUE.is("status(3)", x.status(3), 2);
        DUE.is("status(-1)", x.status(-1), 2);
    }

    /** Promise 39, FULL: what came there last goes first. */
    private static void pileOfSix() {
        RolledPicks x = new RolledPicks();
        for (int i = 1; i <= 6; i++) {
            x.sale(0, i % 3, (i + 1) % 3, i, 0);
            DUE.is("image()", x.image(), i);
        }
        x.sale(0, 2, 1, 11, 0);
        DUE.is("image() of a 7th", x.image(), Due.FULL);
        DUE.is("count(3)", x.count(3), 6);
        DUE.is("count(0)", x.count(0), 7);
        DUE.is("back()", x.back(), 6);
        DUE.is("count(3)", x.count(3), 5);
        x.drop();
        DUE.is("image() in its place", x.image(), 6);
        DUE.is("image() of a 7th", x.image(), Due.FULL);
        int[] deals = {5, 5, 4, 3, 2, 1};
        for (int i = 0; i < 6; i++) {
            DUE.is("back()", x.back(), deals[i]);
            DUE.is("count(0)", x.count(0), deals[i]);
            DUE.is("count(3)", x.count(3), 5 - i);
        }
        DUE.is("back() of none", x.back(), Due.NONE);
        DUE.is("status(1)", x.status(1), 2);
    }

    private static void imagesOfNothingAndOfAll() {
        RolledPicks x = new RolledPicks();
        x.image();
        for (int pick = 0; pick < 12; pick++) {
            x.sale(0, pick % 3, (pick + 1) % 3, pick, 0);
        }
        for (int year = 0; year < 4; year++) {
            x.fall(5);
        }
        x.image();
        for (int k = 0; k < 12; k++) {
            x.drop();
        }
        DUE.is("back() to all", x.back(), 12);
        DUE.is("count(2)", x.count(2), 1);
        DUE.is("owner(1295, 11)", x.owner(1295, 11), 0);
        DUE.is("owner(1294, 11)", x.owner(1294, 11), Due.BEYOND);
        DUE.is("sale", x.sale(0, 0, 1, 11, 0), Due.NONE);
        DUE.is("back() to nothing", x.back(), 0);
        DUE.is("count(2)", x.count(2), 1296);
        for (int pick = 0; pick < 12; pick++) {
            DUE.is("sure(" + pick + ")", x.sure(pick), pick % 3);
            DUE.is("chance", x.chance(pick, pick % 3), 1296);
        }
        DUE.is("of(0, 0)", x.of(0, 0), Due.BEYOND);
        DUE.is("drop()", x.drop(), Due.NONE);
        DUE.is("fallen(0)", x.fallen(0), Due.NONE);
    }

    /** What becomes of DEALS, YEARS, WORTH and z then comes to no image. */
    private static void imagesKeepWhatTheyWere() {
        RolledPicks x = new RolledPicks();
        x.sale(1, 0, 1, 0, 2);
        x.sale(0, 1, 2, 4, 0);
        x.fall(0);
        x.price(2, 77);
        x.seed(-9);
        x.image();
        x.image();
        x.prune();
        x.sale(0, 2, 0, 8, 0);
        x.fall(1);
        x.price(2, 78);
        x.draw();
        for (int time = 0; time < 2; time++) {
            DUE.is("back()", x.back(), 2);
            DUE.is("of(0, 0)", x.of(0, 0), 1);
            DUE.is("of(1, 3)", x.of(1, 3), 4);
            DUE.is("sure(8)", x.sure(8), 2);
            DUE.is("sure(4)", x.sure(4), 2);
            DUE.is("count(1)", x.count(1), 1);
            DUE.is("fallen(1)", x.fallen(1), Due.NONE);
            DUE.is("price(2, 5)", x.price(2, 5), 77);
            DUE.is("seed(4)", x.seed(4), -9);
            x.drop();
            x.sale(0, 1, 0, 7, 0);
            x.fall(3);
        }
    }

    /** THE TAPE, SHEETS, SPOTS, THE CLASH and status() are no part of an image. */
    private static void backLeavesAllElse() {
        RolledPicks x = new RolledPicks();
        x.sale(0, 0, 1, 0, 0);
        x.feed('f', 1);
        x.sheet(0, 2, 3);
        x.write(0, 2, 5);
        x.image();
        x.feed('r', 1);
        x.write(0, 2, 6);
        x.sheet(1, 0, 1);
        x.hold(3, 0);
        x.sale(0, 0, 2, 0, 0);
        x.fall(9);
        x.back();
        DUE.is("count(5)", x.count(5), 2);
        DUE.is("item(0, 2)", x.item(0, 2), 6);
        DUE.is("item(1, 0)", x.item(1, 0), 0);
        DUE.is("taken(3, 0)", x.taken(3, 0), 0);
        DUE.is("clash(1)", x.clash(1), 0);
        DUE.is("status(4)", x.status(4), 1);
        DUE.is("status(0)", x.status(0), 1);
        x.image();
        DUE.is("wipe()", x.wipe(), 2);
        x.sheet(0, -1, 0);
        x.back();
        DUE.is("count(5)", x.count(5), 0);
        DUE.is("item(0, 2)", x.item(0, 2), Due.LONG_MISSING);
    }

    /** STANDINGS that are OPEN again count again where DEALS CLASH. */
    private static void refusedAfterBack() {
        RolledPicks x = new RolledPicks();
        x.sale(1, 0, 1, 3, 2);
        x.image();
        x.fall(0);
        x.fall(0);
        DUE.is("none CLASHES where PICK 3 is at place 0", x.sale(0, 2, 0, 8, 0), 1);
        x.back();
        DUE.is("one of the other", x.sale(0, 0, 2, 3, 0), Due.STATE);
        DUE.is("clash(0)", x.clash(0), 108);
        DUE.is("the number that is free again", x.sale(4, 0, 2, 3, 2), 1);
        DUE.is("owners(3)", x.owners(3), 6);
    }

    /** Promise 41. */
    private static void seeds() {
        RolledPicks x = new RolledPicks();
        int was = 1;
        for (int v : new int[] {MIN, MAX, 0, -1, 1, Due.BEYOND, 42}) {
            DUE.is("seed(" + v + ")", x.seed(v), was);
            DUE.is("count(4)", x.count(4), v);
            was = v;
        }
        DUE.is("status(-1)", x.status(-1), 0);
    }

    private static void zThatLooksLikeAFinding() {
        RolledPicks x = new RolledPicks();
        for (int k = 0; k < 8; k++) {
            x.seed(Due.BEYOND - k);
            DUE.is("count(4)", x.count(4), Due.BEYOND - k);
            DUE.is("seed(0)", x.seed(0), Due.BEYOND - k);
            DUE.is("status(k)", x.status(k), 0);
        }
        x.sheet(0, 2, 1);
        x.write(0, 0, Due.LONG_BEYOND);
        DUE.is("item(0, 0)", x.item(0, 0), Due.LONG_BEYOND);
        DUE.is("status(-1)", x.status(-1), 0);
    }

    /** Promise 42. */
    private static void countsOfNothing() {
        RolledPicks x = new RolledPicks();
        int[] due = {0, 0, 1296, 0, 1, 0, 0};
        for (int what = 0; what < 7; what++) {
            DUE.is("count(" + what + ")", x.count(what), due[what]);
        }
        for (int what : new int[] {MIN, -1, 7, MAX}) {
            DUE.is("count(" + what + ")", x.count(what), Due.BEYOND);
        }
        DUE.is("status(0)", x.status(0), 4);
    }

    private static void countsOfAll() {
        RolledPicks x = new RolledPicks();
        for (int pick = 0; pick < 12; pick++) {
            x.sale(0, pick % 3, (pick + 1) % 3, pick, 0);
        }
        for (int spot = 0; spot < 4; spot++) {
            x.hold(spot, 11);
        }
        for (int year = 0; year < 4; year++) {
            x.fall(year);
        }
        x.seed(MIN);
        for (int i = 0; i < 6; i++) {
            x.image();
        }
        Due.feed(x, " ".repeat(120));
        int[] due = {12, 4, 1, 6, MIN, 120, 4};
        for (int what = 0; what < 7; what++) {
            DUE.is("count(" + what + ")", x.count(what), due[what]);
        }
        x.drop();
        DUE.is("count(6) of a DEAL that is no more", x.count(6), 4);
        DUE.is("status(-1)", x.status(-1), 0);
    }

    /** Promise 43: each finding counts for itself and for all; none is OVER. */
    private static void eachFinding() {
        RolledPicks x = new RolledPicks();
        x.sale(0, 0, 1, 0, 0);
        x.sheet(0, 0, 1);
        x.sheet(1, 2, 1);
        x.hold(0, 0);
        Due.feed(x, " ".repeat(120));
        int[] due = new int[8];
        for (int round = 1; round <= 3; round++) {
            DUE.is("BEYOND", x.order(6, 0), Due.BEYOND);
            DUE.is("BEYOND, of longs", x.value(3), Due.LONG_BEYOND);
            DUE.is("FULL", x.feed(0, 1), Due.FULL);
            DUE.is("KIND", x.copy(0, 0, 1, 0, 1), Due.KIND);
            DUE.is("KIND", x.taken(0, 1), Due.KIND);
            DUE.is("NONE", x.fallen(0), Due.NONE);
            DUE.is("STATE", x.sale(0, 0, 2, 0, 0), Due.STATE);
            DUE.is("MISSING", x.judge(2, 0), Due.MISSING);
            DUE.is("MISSING, of longs", x.item(2, 0), Due.LONG_MISSING);
            DUE.is("SIZE", x.sheet(0, 0, -1), Due.SIZE);
            int[] more = {2, 1, 2, 1, 1, 2, 1, 0};
            int all = 0;
            for (int k = 0; k < 8; k++) {
                due[k] += more[k];
                all += due[k];
                DUE.is("status(" + k + ")", x.status(k), due[k]);
            }
            DUE.is("status(-1)", x.status(-1), all);
        }
        DUE.is("a FAULT is none", x.text(), -121);
        DUE.is("status(-1)", x.status(-1), 30);
    }

    /** A BEYOND of status() itself counts from then on. */
    private static void statusItself() {
        RolledPicks x = new RolledPicks();
        int times = 0;
        for (int which : new int[] {-2, 8, MIN, MAX}) {
            DUE.is("status(" + which + ")", x.status(which), Due.BEYOND);
            times++;
            DUE.is("status(0)", x.status(0), times);
            DUE.is("status(-1)", x.status(-1), times);
            DUE.is("status(7)", x.status(7), 0);
        }
        x.image();
        x.status(9);
        x.back();
        DUE.is("back() takes none back", x.status(0), 5);
        DUE.is("back() takes none back", x.status(-1), 5);
        x.back();
        DUE.is("a back() that finds NONE counts", x.status(3), 1);
        DUE.is("status(-1)", x.status(-1), 6);
    }

    /** The 512th call is answered as the others are. */
    private static void lastCall() {
        RolledPicks x = new RolledPicks();
        for (int call = 1; call < 512; call++) {
            DUE.is("call " + call, x.fallen(3), Due.NONE);
        }
        DUE.is("call 512", x.status(-1), 511);
        RolledPicks y = new RolledPicks();
        for (int call = 1; call < 511; call += 2) {
            DUE.is("sale", y.sale(0, 2, 0, 11, 0), 0);
            DUE.is("drop()", y.drop(), 0);
        }
        y.sale(0, 2, 1, 11, 0);
        DUE.is("call 512", y.value(1), 1296 * 4 * 14 / 3 + 1296 * 14 / 3);
    }
}
