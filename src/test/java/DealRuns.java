/** Promises 7, 8 and 10 to 15: deals made, what they convey, clashes, drops, prunes. */
public final class DealRuns {
    private static final Due DUE = new Due();

    public static void main(String[] args) {
        plainDeals();
        guardsAndTails();
        rolls();
        swaps();
        choices();
        clashes();
        leastClash();
        clashesUnderOpenAlone();
        clashesJustOutside();
        firstPicks();
        twelve();
        fallenYears();
        asked();
        held();
        drops();
        prunes();
        DUE.end();
    }

    private static int standing(int a, int b, int c, int d) {
        return 216 * a + 36 * b + 6 * c + d;
    }

    private static void isDeal(RolledPicks x, int k, int... due) {
        for (int what = 0; what < due.length; what++) {
            DUE.is("of(" + k + ", " + what + ")", x.of(k, what), due[what]);
        }
    }

    private static void plainDeals() {
        RolledPicks x = new RolledPicks();
        DUE.is("sale(0, 0, 1, 0, 99)", x.sale(0, 0, 1, 0, 99), 0);
        DUE.is("sale(0, 2, 0, 11, MIN)", x.sale(0, 2, 0, 11, Integer.MIN_VALUE), 1);
        isDeal(x, 0, 0, 0, 1, 0, -1, 0, 0, 1296);
        isDeal(x, 1, 0, 2, 0, 11, -1, 0, 0, 1296);
        DUE.is("conveys(0, 0, 0)", x.conveys(0, 0, 0), 0);
        DUE.is("conveys(1, 1295, 0)", x.conveys(1, 1295, 0), 11);
        DUE.is("conveys(1, 1295, 1)", x.conveys(1, 1295, 1), Due.NONE);
        DUE.is("sure(0)", x.sure(0), 1);
        DUE.is("sure(11)", x.sure(11), 0);
    }

    private static void guardsAndTails() {
        RolledPicks x = new RolledPicks();
        DUE.is("GUARD 1", x.sale(1, 0, 1, 0, 1), 0);
        DUE.is("GUARD 2", x.sale(1, 1, 2, 4, 2), 1);
        DUE.is("TAIL 1", x.sale(4, 2, 0, 8, 1), 2);
        DUE.is("TAIL 2", x.sale(4, 0, 2, 9, 2), 3);
        isDeal(x, 0, 1, 0, 1, 0, -1, 1, 0, 864);
        isDeal(x, 1, 1, 1, 2, 4, -1, 2, 0, 432);
        isDeal(x, 2, 4, 2, 0, 8, -1, 1, 0, 432);
        isDeal(x, 3, 4, 0, 2, 9, -1, 2, 0, 864);
        int[] placesOf0 = {0, 0, 1, 2, 1, 2};
        int[] placesOf1 = {1, 2, 0, 0, 2, 1};
        int[] placesOf2 = {2, 1, 2, 1, 0, 0};
        for (int o = 0; o < 6; o++) {
            int s = standing(o, o, o, o);
            DUE.is("GUARD 1 under " + o, x.conveys(0, s, 0), placesOf0[o] >= 1 ? 0 : Due.NONE);
            DUE.is("GUARD 2 under " + o, x.conveys(1, s, 0), placesOf1[o] >= 2 ? 4 : Due.NONE);
            DUE.is("TAIL 1 under " + o, x.conveys(2, s, 0), placesOf2[o] < 1 ? 8 : Due.NONE);
            DUE.is("TAIL 2 under " + o, x.conveys(3, s, 0), placesOf0[o] < 2 ? 9 : Due.NONE);
            DUE.is("other way under " + o, x.conveys(0, s, 1), Due.NONE);
        }
        DUE.is("a GUARD and the TAIL that it leaves", x.sale(4, 0, 2, 0, 1), 4);
        DUE.is("owners(0)", x.owners(0), 6);
    }

    private static void rolls() {
        RolledPicks x = new RolledPicks();
        DUE.is("ROLL 2", x.sale(3, 0, 1, 0, 2), 0);
        DUE.is("ROLL 1 in the last YEAR", x.sale(3, 1, 2, 10, 1), 1);
        DUE.is("ROLL 2 in the last YEAR but one", x.sale(3, 2, 0, 8, 2), 2);
        isDeal(x, 0, 3, 0, 1, 0, -1, 2, 0, 1296);
        isDeal(x, 1, 3, 1, 2, 10, -1, 1, 0, 864);
        isDeal(x, 2, 3, 2, 0, 8, -1, 2, 0, 1296 * 7 / 9);
        DUE.is("ROLL at once", x.conveys(0, standing(3, 0, 0, 0), 0), 0);
        DUE.is("ROLL a YEAR on", x.conveys(0, standing(2, 2, 0, 0), 0), 3);
        DUE.is("ROLL a YEAR on, at 2", x.conveys(0, standing(0, 5, 0, 0), 0), 3);
        DUE.is("ROLL two YEARS on", x.conveys(0, standing(0, 1, 0, 0), 0), 6);
        DUE.is("ROLL two YEARS on, at 2", x.conveys(0, standing(4, 0, 3, 3), 0), 6);
        DUE.is("ROLL at the end", x.conveys(1, standing(0, 0, 0, 2), 0), Due.NONE);
        DUE.is("ROLL at the end", x.conveys(1, standing(0, 0, 0, 0), 0), 10);
        DUE.is("ROLL 2 near the end", x.conveys(2, standing(0, 0, 0, 4), 0), 8);
        DUE.is("ROLL 2 near the end", x.conveys(2, standing(0, 0, 1, 1), 0), 11);
        DUE.is("ROLL 2 that lapses", x.conveys(2, standing(0, 0, 1, 4), 0), Due.NONE);
        DUE.is("owner(0, 6)", x.owner(0, 6), 1);
        DUE.is("chain(0, 6, 1)", x.chain(0, 6, 1), 1);
        DUE.is("chain(0, 3, -1)", x.chain(0, 3, -1), 1);
        DUE.is("chain(0, 10, 1)", x.chain(0, 10, 1), 2);
        DUE.is("owner(0, 0)", x.owner(0, 0), 0);
        DUE.is("chance(6, 1)", x.chance(6, 1), 1296 * 2 / 3 / 3);
        DUE.is("chance(9, 1)", x.chance(9, 1), 0);
        RolledPicks y = new RolledPicks();
        y.sale(3, 0, 1, 9, 1);
        DUE.is("ROLL with nowhere to go", y.conveys(0, 0, 0), Due.NONE);
        DUE.is("of(0, 7)", y.of(0, 7), 864);
        DUE.is("two ROLLS that would meet", y.sale(3, 0, 1, 3, 2), Due.STATE);
        y.drop();
        DUE.is("ROLL from YEAR 1", y.sale(3, 0, 1, 3, 2), 0);
        DUE.is("a YEAR on", y.conveys(0, standing(0, 0, 2, 0), 0), 6);
        DUE.is("chain, a YEAR on", y.chain(standing(0, 0, 2, 0), 6, 1), 1);
    }

    private static void swaps() {
        RolledPicks x = new RolledPicks();
        DUE.is("SWAP", x.swap(0, 1, 3, 4, 0), 0);
        isDeal(x, 0, 2, 0, 1, 3, 4, 0, 0, 648);
        DUE.is("the other is at a greater place", x.conveys(0, 0, 0), Due.NONE);
        DUE.is("the other is at a greater place", x.conveys(0, 0, 1), Due.NONE);
        int s = standing(0, 2, 0, 0);
        DUE.is("the other is at a lesser place", x.conveys(0, s, 0), 3);
        DUE.is("the other is at a lesser place", x.conveys(0, s, 1), 4);
        DUE.is("owner", x.owner(s, 3), 1);
        DUE.is("owner", x.owner(s, 4), 0);
        DUE.is("owner", x.owner(0, 3), 0);
    }

    private static void choices() {
        RolledPicks x = new RolledPicks();
        DUE.is("CHOICE 1", x.swap(0, 1, 3, 4, 1), 0);
        DUE.is("CHOICE 2", x.swap(2, 0, 8, 6, 2), 1);
        isDeal(x, 0, 5, 0, 1, 3, 4, 1, 0, 648);
        isDeal(x, 1, 5, 2, 0, 8, 6, 2, 0, 216);
        DUE.is("less by 1", x.conveys(0, standing(0, 2, 0, 0), 1), 4);
        DUE.is("less by 1 where 2 is asked", x.conveys(1, standing(0, 0, 1, 0), 0), Due.NONE);
        DUE.is("less by 2", x.conveys(1, 0, 0), 8);
        DUE.is("less by 2", x.conveys(1, 0, 1), 6);
    }

    private static void isClash(RolledPicks x, String of, int standing, int pick, int sort) {
        DUE.is(of + ": clash(0)", x.clash(0), standing);
        DUE.is(of + ": clash(1)", x.clash(1), pick);
        DUE.is(of + ": clash(2)", x.clash(2), sort);
    }

    private static void clashes() {
        RolledPicks x = new RolledPicks();
        x.sale(0, 2, 0, 5, 0);
        DUE.is("twice from one", x.sale(0, 2, 1, 5, 0), Due.STATE);
        isClash(x, "twice from one", 0, 5, 0);
        DUE.is("back to one who had it", x.sale(0, 0, 2, 5, 0), Due.STATE);
        isClash(x, "back to one who had it", 0, 5, 1);
        DUE.is("from one that is none of the CHAIN", x.sale(4, 1, 0, 5, 1), Due.STATE);
        isClash(x, "from one that is none of the CHAIN", 5 * 36 - 36, 5, 2);
        DUE.is("count(0)", x.count(0), 1);
        DUE.is("taken ones leave it", x.sale(0, 0, 1, 5, 0), 1);
        isClash(x, "taken ones leave it", 4 * 36, 5, 2);
        DUE.is("twice from one, and back too", x.sale(0, 0, 2, 5, 0), Due.STATE);
        isClash(x, "twice from one, and back too", 0, 5, 0);
        DUE.is("back after two", x.sale(1, 1, 2, 5, 2), Due.STATE);
        isClash(x, "back after two", 0, 5, 1);
        DUE.is("back after two", x.sale(1, 1, 0, 5, 1), Due.STATE);
        isClash(x, "back after two", 0, 5, 1);
        DUE.is("swap", x.swap(1, 2, 6, 7, 0), Due.STATE);
        isClash(x, "swap: of two PICKS the lesser", standing(0, 0, 2, 0), 6, 2);
    }

    private static void leastClash() {
        RolledPicks x = new RolledPicks();
        x.sale(1, 0, 2, 9, 2);
        DUE.is("no CLASH where the GUARD and the swap lapse in turn", x.swap(1, 0, 10, 9, 0), 1);
        DUE.is("swap the other way", x.swap(0, 1, 9, 10, 0), Due.STATE);
        isClash(x, "first where both convey", 3, 9, 0);
        RolledPicks y = new RolledPicks();
        y.sale(0, 0, 2, 9, 0);
        DUE.is("swap with a CLASH of the other PICK", y.swap(1, 0, 10, 9, 0), Due.STATE);
        isClash(y, "of the other PICK alone", 0, 9, 0);
        RolledPicks z = new RolledPicks();
        z.sale(0, 0, 2, 9, 0);
        z.sale(0, 1, 2, 10, 0);
        DUE.is("swap with a CLASH of both", z.swap(1, 0, 10, 9, 0), Due.STATE);
        isClash(z, "of both the lesser", 0, 9, 0);
        RolledPicks r = new RolledPicks();
        r.sale(0, 0, 1, 6, 0);
        DUE.is("ROLL into a sold PICK", r.sale(3, 0, 2, 0, 2), Due.STATE);
        isClash(r, "ROLL into a sold PICK", 0, 6, 0);
        DUE.is("ROLL with no way there", r.sale(3, 0, 2, 3, 1), Due.STATE);
        isClash(r, "ROLL with no way there", 0, 6, 0);
        DUE.is("ROLL behind it", r.sale(3, 0, 2, 9, 2), 1);
    }

    /** What lies just outside the OPEN STANDINGS is no CLASH. */
    private static void clashesJustOutside() {
        for (int order = 0; order < 6; order++) {
            for (int sold = 1; sold < 3; sold++) {
                RolledPicks x = new RolledPicks();
                x.sale(1, 0, 1, 0, sold);
                DUE.is("clash", x.sale(3, 0, 2, 0, sold), Due.STATE);
                x.fall(order);
                int place = x.place(216 * order, 0);
                DUE.is("after fall(" + order + ")", Due.text(x, "from 0 to 2 pick 3 if not lapsed 0"), 1);
                DUE.is("of(1, 7)", x.of(1, 7), place >= sold ? 216 : 0);
                int due = place >= sold ? Due.STATE : 2;
                DUE.is("one more", Due.text(x, "from 0 to 1 pick 3 if not lapsed 0") == 1 ? 2 : Due.STATE, due);
            }
        }
    }

    private static void firstPicks() {
        RolledPicks x = new RolledPicks();
        DUE.is("swap", x.swap(1, 0, 1, 0, 0), 0);
        int behind = standing(0, 0, 0, 0);
        DUE.is("conveys", x.conveys(0, behind, 0), 1);
        DUE.is("conveys", x.conveys(0, behind, 1), 0);
        DUE.is("owner", x.owner(behind, 0), 1);
        DUE.is("chain", x.chain(behind, 0, 1), 1);
        DUE.is("swap back", x.swap(0, 1, 0, 1, 0), 1);
        int ahead = standing(2, 0, 0, 0);
        DUE.is("conveys", x.conveys(1, ahead, 0), 0);
        DUE.is("conveys", x.conveys(1, ahead, 1), 1);
        DUE.is("owner", x.owner(ahead, 1), 0);
        DUE.is("chain", x.chain(ahead, 1, -1), 2);
        DUE.is("chain", x.chain(ahead, 0, -1), 2);
        DUE.is("sure", x.sure(0), 1);
        RolledPicks y = new RolledPicks();
        y.sale(0, 0, 2, 0, 0);
        DUE.is("the first PICK, got back", y.swap(1, 0, 1, 0, 0), Due.STATE);
        isClash(y, "the first PICK, got back", 0, 0, 0);
        y.sale(0, 1, 0, 1, 0);
        DUE.is("and only it", y.swap(0, 2, 1, 0, 2), Due.STATE);
        isClash(y, "and only it", standing(1, 0, 0, 0), 0, 1);
        RolledPicks z = new RolledPicks();
        z.sale(0, 0, 1, 0, 0);
        Due.text(z, "from 1 to 2 pick 10 if lapsed 0; from 2 to 1 pick 11 if not lapsed 0");
        DUE.is("lapsed, of the first PICK", z.of(1, 7), 0);
        DUE.is("not lapsed, of the first PICK", z.of(2, 7), 1296);
    }

    private static void clashesUnderOpenAlone() {
        RolledPicks x = new RolledPicks();
        DUE.is("GUARD", x.sale(3, 0, 1, 0, 2), 0);
        DUE.is("clash over PICK 3", x.sale(0, 0, 2, 3, 0), Due.STATE);
        DUE.is("fall", x.fall(5), 1);
        DUE.is("none once PICK 0 is at place 2", x.sale(0, 0, 2, 3, 0), 1);
        RolledPicks y = new RolledPicks();
        y.sale(3, 0, 1, 0, 2);
        y.fall(2);
        DUE.is("clash", y.sale(1, 0, 2, 3, 1), Due.STATE);
        isClash(y, "the least OPEN STANDING", standing(2, 2, 0, 0), 3, 0);
        DUE.is("the TAIL is free", y.sale(4, 0, 2, 3, 1), 1);
    }

    private static void twelve() {
        RolledPicks x = new RolledPicks();
        for (int pick = 0; pick < 12; pick++) {
            DUE.is("sale of " + pick, x.sale(0, pick % 3, (pick + 1) % 3, pick, 0), pick);
        }
        DUE.is("a 13th", x.sale(0, 1, 2, 0, 0), Due.FULL);
        DUE.is("a 13th", x.swap(1, 2, 0, 1, 0), Due.FULL);
        DUE.is("count(0)", x.count(0), 12);
        DUE.is("drop()", x.drop(), 11);
        DUE.is("a 12th", x.sale(1, 1, 2, 0, 2), 11);
        DUE.is("chain", x.chain(1295, 0, -1), 3);
        DUE.is("chain", x.chain(0, 0, -1), 2);
    }

    private static void fallenYears() {
        RolledPicks x = new RolledPicks();
        x.fall(0);
        DUE.is("sale of a fallen PICK", x.sale(0, 2, 0, 2, 0), Due.NONE);
        DUE.is("sale of the next", x.sale(0, 0, 2, 3, 0), 0);
        x.fall(0);
        DUE.is("swap of a fallen PICK", x.swap(2, 1, 5, 4, 0), Due.NONE);
        DUE.is("swap of the next", x.swap(1, 0, 7, 6, 0), 1);
        DUE.is("owner stays", x.sure(3), 2);
    }

    private static void asked() {
        RolledPicks x = new RolledPicks();
        x.sale(1, 0, 1, 3, 2);
        DUE.is("of(0, 7)", x.of(0, 7), 432);
        x.fall(1);
        DUE.is("of(0, 7)", x.of(0, 7), 72);
        x.fall(0);
        DUE.is("of(0, 7)", x.of(0, 7), 0);
        DUE.is("conveys of a STANDING that isn't OPEN", x.conveys(0, 1295, 0), 3);
        DUE.is("of(0, 6)", x.of(0, 6), 0);
        DUE.is("holds(0, 1295)", x.holds(0, 1295), 1);
    }

    private static void held() {
        RolledPicks x = new RolledPicks();
        Due.text(x, "from 0 to 1 pick 3 guard 2 if at 3 2 0");
        DUE.is("of(0, 6)", x.of(0, 6), 1);
        DUE.is("of(0, 7)", x.of(0, 7), 144);
        DUE.is("holds(0, 0)", x.holds(0, 0), 0);
        DUE.is("holds(0, 4)", x.holds(0, 4), 1);
        DUE.is("holds(0, 1295)", x.holds(0, 1295), 1);
        DUE.is("conveys(0, 4, 0)", x.conveys(0, 4, 0), Due.NONE);
        DUE.is("conveys(0, 1295, 0)", x.conveys(0, 1295, 0), 3);
        DUE.is("conveys where the CONDITION doesn't hold", x.conveys(0, 5 * 36, 0), Due.NONE);
    }

    private static void drops() {
        RolledPicks x = new RolledPicks();
        DUE.is("drop()", x.drop(), Due.NONE);
        x.sale(0, 0, 1, 0, 0);
        x.sale(0, 1, 2, 0, 0);
        DUE.is("sure(0)", x.sure(0), 2);
        DUE.is("drop()", x.drop(), 1);
        DUE.is("sure(0)", x.sure(0), 1);
        DUE.is("of(1, 0)", x.of(1, 0), Due.BEYOND);
        DUE.is("drop()", x.drop(), 0);
        DUE.is("sure(0)", x.sure(0), 0);
        DUE.is("drop()", x.drop(), Due.NONE);
    }

    private static void prunes() {
        RolledPicks x = new RolledPicks();
        DUE.is("prune()", x.prune(), 0);
        x.sale(1, 0, 1, 0, 2);
        x.sale(0, 1, 2, 4, 0);
        x.sale(4, 2, 0, 2, 1);
        x.sale(3, 0, 2, 6, 2);
        DUE.is("prune()", x.prune(), 0);
        x.fall(0);
        DUE.is("prune()", x.prune(), 2);
        DUE.is("count(0)", x.count(0), 2);
        isDeal(x, 0, 0, 1, 2, 4);
        isDeal(x, 1, 3, 0, 2, 6);
        DUE.is("prune()", x.prune(), 0);
        DUE.is("sure(4)", x.sure(4), 2);
        DUE.is("next number", x.sale(0, 1, 0, 10, 0), 2);
        RolledPicks y = new RolledPicks();
        y.sale(1, 0, 1, 0, 2);
        y.sale(4, 1, 2, 1, 1);
        y.sale(3, 2, 0, 5, 2);
        for (int year = 0; year < 4; year++) {
            y.fall(3);
        }
        DUE.is("prune() with one STANDING left", y.prune(), 0);
        DUE.is("of(1, 7)", y.of(1, 7), 1);
    }
}
