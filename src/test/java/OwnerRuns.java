/** Promises 16 to 22: who has what, under one STANDING and under all OPEN ones. */
public final class OwnerRuns {
    private static final Due DUE = new Due();

    public static void main(String[] args) {
        chains();
        hands();
        underAll();
        deals();
        DUE.end();
    }

    private static RolledPicks some() {
        RolledPicks x = new RolledPicks();
        x.sale(0, 2, 0, 5, 0);
        x.sale(1, 0, 1, 5, 1);
        x.sale(1, 0, 1, 3, 2);
        x.swap(1, 2, 7, 8, 0);
        return x;
    }

    private static void chains() {
        RolledPicks x = some();
        // PICK 5 is at place 2 under ORDER 0 of YEAR 1, at place 0 under ORDER 4
        int[] due = {2, 0, 1};
        DUE.is("chain(0, 5, -1)", x.chain(0, 5, -1), 3);
        for (int i = 0; i < 3; i++) {
            DUE.is("chain(0, 5, " + i + ")", x.chain(0, 5, i), due[i]);
            DUE.is("chain(144, 5, " + i + ")", x.chain(144, 5, i), i < 2 ? due[i] : Due.NONE);
        }
        DUE.is("chain(0, 5, 3)", x.chain(0, 5, 3), Due.NONE);
        DUE.is("chain(144, 5, -1)", x.chain(144, 5, -1), 2);
        DUE.is("chain(0, 0, -1)", x.chain(0, 0, -1), 1);
        DUE.is("chain(0, 0, 0)", x.chain(0, 0, 0), 0);
        DUE.is("chain(0, 0, 1)", x.chain(0, 0, 1), Due.NONE);
        for (int i : new int[] {-2, -3, Integer.MIN_VALUE, Integer.MAX_VALUE}) {
            DUE.is("chain(0, 0, " + i + ")", x.chain(0, 0, i), Due.NONE);
            DUE.is("chain(0, 5, " + i + ")", x.chain(0, 5, i), Due.NONE);
            DUE.is("chain(1296, 0, " + i + ")", x.chain(1296, 0, i), Due.BEYOND);
            DUE.is("chain(0, 12, " + i + ")", x.chain(0, 12, i), Due.BEYOND);
        }
        DUE.is("owner(0, 5)", x.owner(0, 5), 1);
        DUE.is("owner(144, 5)", x.owner(144, 5), 0);
        // YEAR 2, ORDER 1 (0 2 1): 8 is ahead of 7, so they are swapped
        DUE.is("owner(6, 7)", x.owner(6, 7), 2);
        DUE.is("owner(6, 8)", x.owner(6, 8), 1);
        DUE.is("chain(6, 8, 1)", x.chain(6, 8, 1), 1);
    }

    private static void hands() {
        RolledPicks x = some();
        DUE.is("hand(0, 0)", x.hand(0, 0), 1 | 1 << 3 | 1 << 6 | 1 << 9);
        DUE.is("hand(0, 1)", x.hand(0, 1), 1 << 1 | 1 << 4 | 1 << 5 | 1 << 7 | 1 << 10);
        DUE.is("hand(0, 2)", x.hand(0, 2), 1 << 2 | 1 << 8 | 1 << 11);
        DUE.is("hand(6, 1)", x.hand(6, 1), 1 << 1 | 1 << 4 | 1 << 5 | 1 << 8 | 1 << 10);
        DUE.is("hand(1295, 0)", x.hand(1295, 0), 1 | 1 << 5 | 1 << 6 | 1 << 9);
        for (int standing = 0; standing < 1296; standing += 97) {
            int all = x.hand(standing, 0) + x.hand(standing, 1) + x.hand(standing, 2);
            DUE.is("hands together under " + standing, all, 4095);
        }
    }

    private static void underAll() {
        RolledPicks x = some();
        DUE.is("owners(0)", x.owners(0), 1);
        DUE.is("owners(5)", x.owners(5), 3);
        DUE.is("owners(7)", x.owners(7), 6);
        DUE.is("sure(0)", x.sure(0), 0);
        DUE.is("sure(11)", x.sure(11), 2);
        DUE.is("sure(5)", x.sure(5), Due.NONE);
        DUE.is("chance(5, 0)", x.chance(5, 0), 432);
        DUE.is("chance(5, 1)", x.chance(5, 1), 864);
        DUE.is("chance(5, 2)", x.chance(5, 2), 0);
        DUE.is("chance(11, 2)", x.chance(11, 2), 1296);
        DUE.is("least(5, 0)", x.least(5, 0), 144);
        DUE.is("least(5, 1)", x.least(5, 1), 0);
        DUE.is("least(5, 2)", x.least(5, 2), Due.NONE);
        DUE.is("least(7, 2)", x.least(7, 2), 6);
        x.fall(2);
        DUE.is("owners(5)", x.owners(5), 3);
        DUE.is("chance(5, 0)", x.chance(5, 0), 72);
        DUE.is("least(5, 1)", x.least(5, 1), 432);
        DUE.is("least(5, 0)", x.least(5, 0), 432 + 144);
        x.fall(5);
        DUE.is("owners(5)", x.owners(5), 1);
        DUE.is("sure(5)", x.sure(5), 0);
        DUE.is("sure(3)", x.sure(3), 1);
        DUE.is("chance(5, 0)", x.chance(5, 0), 36);
        DUE.is("least(5, 1)", x.least(5, 1), Due.NONE);
        DUE.is("owner(0, 5) of a STANDING that isn't OPEN", x.owner(0, 5), Due.BEYOND);
        DUE.is("owner(647, 5)", x.owner(647, 5), 0);
        DUE.is("owner(612, 5)", x.owner(612, 5), 0);
        DUE.is("owner(648, 5)", x.owner(648, 5), Due.BEYOND);
        DUE.is("owner(611, 5)", x.owner(611, 5), Due.BEYOND);
    }

    /** Owners follow whatever comes to the deals and goes from them. */
    private static void deals() {
        RolledPicks x = new RolledPicks();
        x.image();
        x.sale(0, 0, 1, 0, 0);
        DUE.is("sure(0)", x.sure(0), 1);
        x.image();
        x.fall(5);
        x.sale(0, 2, 1, 5, 0);
        DUE.is("sure(5)", x.sure(5), 1);
        DUE.is("back()", x.back(), 1);
        DUE.is("sure(0)", x.sure(0), 1);
        DUE.is("chance(0, 1)", x.chance(0, 1), 1296);
        DUE.is("sure(5)", x.sure(5), 2);
        Due.text(x, "from 1 to 2 pick 0; from 1 to 0 pick 0");
        DUE.is("sure(0), the text refused", x.sure(0), 1);
        DUE.is("text", Due.text(x, "from 1 to 2 pick 0"), 1);
        DUE.is("sure(0)", x.sure(0), 2);
        DUE.is("drop()", x.drop(), 1);
        DUE.is("sure(0)", x.sure(0), 1);
        DUE.is("back()", x.back(), 0);
        DUE.is("sure(0)", x.sure(0), 0);
    }
}
